import java.util.Arrays;

/**
 * Looks at a small contract of a stack machine for all inputs at once, and replays any input.
 *
 * All rows are made with the object and used again by every call: no call makes an object.
 */
public final class ContractProbe {
    private static final int PUSH = 0;
    private static final int INPUT = 1;
    private static final int CALLER = 2;
    private static final int DUP = 3;
    private static final int SWAP = 4;
    private static final int ADD = 6;
    private static final int SUB = 7;
    private static final int MUL = 8;
    private static final int AND = 9;
    private static final int XOR = 10;
    private static final int LESS = 11;
    private static final int EQUAL = 12;
    private static final int ZERO = 13;
    private static final int LOAD = 14;
    private static final int STORE = 15;
    private static final int MARK = 16;
    private static final int JUMP = 17;
    private static final int BRANCH = 18;
    private static final int SEND = 19;
    private static final int BALANCE = 20;
    private static final int ASSERT = 21;
    private static final int STOP = 22;
    private static final int REVERT = 23;
    private static final int DESTROY = 24;

    /** By operator: the gas it costs, the words it takes, the words it puts. */
    private static final int[] COSTS =
        {1, 1, 1, 1, 1, 1, 1, 1, 3, 1, 1, 1, 1, 1, 1, 3, 1, 1, 1, 5, 1, 1, 1, 1, 1};
    private static final int[] TAKES =
        {0, 0, 0, 0, 0, 1, 2, 2, 2, 2, 2, 2, 2, 1, 1, 2, 0, 1, 2, 1, 0, 1, 0, 0, 0};
    private static final int[] PUTS =
        {1, 1, 1, 1, 0, 0, 1, 1, 1, 1, 1, 1, 1, 1, 1, 0, 0, 0, 0, 1, 1, 0, 0, 0, 0};

    private static final int STOPS = 0;
    private static final int REVERTS = 1;
    private static final int FAULTS = 2;
    private static final int DESTROYS = 3;
    private static final int NOTHING = 4;
    private static final int RUNNING = 5;

    private static final int FAILED_ASSERT = 0;
    private static final int OVERFLOW = 1;
    private static final int OPEN = 2;
    private static final int LATE = 3;
    private static final int OTHER_FAULT = 4;
    private static final int KINDS = 5;

    private static final int OPERATORS = 25;
    private static final int WORDS = 16;
    private static final int MOST_CODE = 32;
    private static final int MOST_STACK = 6;
    private static final int MOST_LIMIT = 40;
    /** Each instruction costs gas, so at most one more than the limit is begun: the one that faults. */
    private static final int MOST_STEPS = MOST_LIMIT + 1;
    private static final int MOST_PATHS = 40;
    /** The input numbers of one transaction, and of two. */
    private static final int SINGLES = 64;
    private static final int PAIRS = 4096;

    /** A state is one int, words of four bits each: cells 0 to 3 and, topmost, the balance. */
    private static final int STATE_WORDS = 5;
    private static final int BALANCE_PLACE = 16;
    private static final int GAS_LEFT = 5;
    private static final int STACK_WORDS = 6;
    private static final int REPLAY_WORDS = 7;

    private static final int NONE = -1;
    private static final int TOO_MANY = -2;
    private static final int FIRST_LIMIT = 24;

    private final Machine machine = new Machine();
    private final Exploration exploration = new Exploration();
    private final int[] replayRow = new int[REPLAY_WORDS];
    private boolean hasReplay = false;
    private int balance = 0;
    private int limit = FIRST_LIMIT;

    public ContractProbe() {
    }

    public int add(int op, int a) {
        if (!isBelow(op, OPERATORS) || !isBelow(a, WORDS)) {
            return NONE;
        }
        return machine.code.append(op, a);
    }

    public void clear() {
        machine.code.wipe();
    }

    public boolean start(int balance, int limit) {
        if (!isBelow(balance, WORDS) || limit < 1 || limit > MOST_LIMIT) {
            return false;
        }
        this.balance = balance;
        this.limit = limit;
        return true;
    }

    public int explore(int n) {
        if (n != 1 && n != 2) {
            return NONE;
        }
        exploration.forget();
        boolean isWhole = n == 1
            ? exploration.surveySingles(machine, firstState(), limit)
            : exploration.surveyPairs(machine, firstState(), limit);
        return exploration.conclude(isWhole);
    }

    public int inputs(int path) {
        int row = exploration.paths.rowOf(path);
        return row == NONE ? NONE : exploration.paths.inputCounts[row];
    }

    public int witness(int path) {
        int row = exploration.paths.rowOf(path);
        return row == NONE ? NONE : exploration.paths.witnesses[row];
    }

    public int end(int path, int t) {
        int row = exploration.paths.rowOf(path);
        if (row == NONE || !isBelow(t, exploration.transactions)) {
            return NONE;
        }
        return exploration.waysOf(t).endings[exploration.wayOn(row, t)];
    }

    public int step(int path, int t, int k) {
        int row = exploration.paths.rowOf(path);
        if (row == NONE || !isBelow(t, exploration.transactions)) {
            return NONE;
        }
        return exploration.waysOf(t).stepOf(exploration.wayOn(row, t), k);
    }

    public int left(int path, int i) {
        int row = exploration.paths.rowOf(path);
        if (row == NONE || !isBelow(i, STATE_WORDS)) {
            return NONE;
        }
        int atWitness = wordOf(exploration.paths.states[row], i);
        boolean same = wordOf(exploration.paths.differences[row], i) == 0;
        return same ? atWitness + WORDS : atWitness;
    }

    public int finding(int kind, int i) {
        if (!isBelow(kind, KINDS) || !isBelow(i, MOST_CODE)) {
            return NONE;
        }
        return exploration.tally.leastOf(kind, i);
    }

    public int risk(int path, int kind, int i) {
        int row = exploration.paths.rowOf(path);
        if (row == NONE || !isBelow(kind, KINDS) || !isBelow(i, MOST_CODE)) {
            return NONE;
        }
        return exploration.tally.countOf(row, kind, i);
    }

    public int replay(int n, int number) {
        if ((n != 1 && n != 2) || !isBelow(number, n == 1 ? SINGLES : PAIRS)) {
            return NONE;
        }
        int state = firstState();
        boolean destroyed = false;
        if (n == 2) {
            machine.transact(number / SINGLES, state, false, limit);
            state = machine.state;
            destroyed = machine.ending == DESTROYS;
        }
        machine.transact(number % SINGLES, state, destroyed, limit);
        keepReplay();
        return machine.ending;
    }

    public int replayed(int i) {
        return hasReplay && isBelow(i, REPLAY_WORDS) ? replayRow[i] : NONE;
    }

    private void keepReplay() {
        for (int i = 0; i < STATE_WORDS; i++) {
            replayRow[i] = wordOf(machine.state, i);
        }
        replayRow[GAS_LEFT] = machine.gas;
        replayRow[STACK_WORDS] = machine.depth;
        hasReplay = true;
    }

    private int firstState() {
        return balance << BALANCE_PLACE;
    }

    private static boolean isBelow(int value, int bound) {
        return value >= 0 && value < bound;
    }

    private static int wordOf(int state, int i) {
        return (state >> (4 * i)) & 15;
    }

    private static int withWord(int state, int i, int word) {
        return (state & ~(15 << (4 * i))) | (word << (4 * i));
    }

    /** The instructions, and where the first MARK with each argument is. */
    private static final class Code {
        private final int[] operators = new int[MOST_CODE];
        private final int[] arguments = new int[MOST_CODE];
        private final int[] marks = new int[WORDS];
        private int size = 0;

        Code() {
            Arrays.fill(marks, NONE);
        }

        int append(int operator, int argument) {
            if (size >= MOST_CODE) {
                return NONE;
            }
            operators[size] = operator;
            arguments[size] = argument;
            if (operator == MARK && marks[argument] == NONE) {
                marks[argument] = size;
            }
            size++;
            return size - 1;
        }

        void wipe() {
            size = 0;
            Arrays.fill(marks, NONE);
        }
    }

    /** Does one transaction at a time; its fields tell how the latest one went. */
    private static final class Machine {
        private final Code code = new Code();
        private final int[] stack = new int[MOST_STACK];
        private int depth = 0;
        private int state = 0;
        private int gas = 0;
        private int at = 0;
        private int ending = STOPS;
        private int input = 0;
        private int caller = 0;
        private boolean hasSent = false;
        private final int[] steps = new int[MOST_STEPS];
        private int stepCount = 0;
        /** A number made of the steps: ways that differ in it are different, which spares comparing steps. */
        private int shape = 0;
        /** By kind: a bit for each instruction with a finding. */
        private final int[] found = new int[KINDS];

        /** Does the transaction of an input number; nothing if the contract is destroyed. */
        void transact(int number, int before, boolean destroyed, int limit) {
            begin(number, before, destroyed ? 0 : limit);
            ending = destroyed ? NOTHING : RUNNING;
            for (int k = 0; k < MOST_STEPS && ending == RUNNING; k++) {
                if (at >= code.size) {
                    ending = STOPS;
                } else {
                    keepStep(k);
                    perform(code.operators[at], code.arguments[at]);
                }
            }
            if (ending == REVERTS || ending == FAULTS) {
                state = before;
            }
        }

        private void begin(int number, int before, int limit) {
            depth = 0;
            state = before;
            gas = limit;
            at = 0;
            input = number / 4;
            caller = number % 4;
            hasSent = false;
            stepCount = 0;
            shape = 0;
            Arrays.fill(found, 0);
        }

        private void keepStep(int k) {
            steps[k] = at;
            stepCount = k + 1;
            shape = shape * 31 + at + 1;
        }

        private void perform(int operator, int argument) {
            int fault = faultOf(operator, argument);
            if (fault != NONE) {
                note(fault);
                ending = FAULTS;
                return;
            }
            int x = wordUnder(0);
            int y = wordUnder(1);
            look(operator, x, y);
            gas -= COSTS[operator];
            depth -= TAKES[operator];
            at++;
            if (PUTS[operator] == 1) {
                stack[depth] = wordPut(operator, argument, x, y);
                depth++;
            } else {
                act(operator, argument, x, y);
            }
        }

        /** Everything that can fault is looked at before anything is taken, so a fault changes nothing. */
        private int faultOf(int operator, int argument) {
            int rest = depth - TAKES[operator];
            if (gas < COSTS[operator] || rest < 0 || rest + PUTS[operator] > MOST_STACK) {
                return OTHER_FAULT;
            }
            switch (operator) {
                case DUP:
                    return argument < depth ? NONE : OTHER_FAULT;
                case SWAP:
                    return argument + 1 < depth ? NONE : OTHER_FAULT;
                case JUMP:
                    return code.marks[wordUnder(0)] != NONE ? NONE : OTHER_FAULT;
                case BRANCH:
                    return wordUnder(1) == 0 || code.marks[wordUnder(0)] != NONE ? NONE : OTHER_FAULT;
                case ASSERT:
                    return wordUnder(0) != 0 ? NONE : FAILED_ASSERT;
                default:
                    return NONE;
            }
        }

        private void look(int operator, int x, int y) {
            boolean overflows = (operator == ADD && y + x >= WORDS)
                || (operator == MUL && y * x >= WORDS)
                || (operator == SUB && x > y);
            if (overflows) {
                note(OVERFLOW);
            } else if (operator == DESTROY && caller != 0) {
                note(OPEN);
            } else if (operator == STORE && hasSent) {
                note(LATE);
            }
        }

        private int wordPut(int operator, int argument, int x, int y) {
            switch (operator) {
                case PUSH:
                    return argument;
                case INPUT:
                    return input;
                case CALLER:
                    return caller;
                case DUP:
                    return wordUnder(argument);
                case ADD:
                    return (y + x) & 15;
                case SUB:
                    return (y - x) & 15;
                case MUL:
                    return (y * x) & 15;
                case AND:
                    return y & x;
                case XOR:
                    return y ^ x;
                case LESS:
                    return y < x ? 1 : 0;
                case EQUAL:
                    return y == x ? 1 : 0;
                case ZERO:
                    return x == 0 ? 1 : 0;
                case LOAD:
                    return wordOf(state, x % 4);
                case SEND:
                    return send(x);
                case BALANCE:
                    return state >> BALANCE_PLACE;
                default:
                    return 0;
            }
        }

        private void act(int operator, int argument, int x, int y) {
            switch (operator) {
                case SWAP:
                    swap(depth - 1, depth - 2 - argument);
                    break;
                case STORE:
                    state = withWord(state, x % 4, y);
                    break;
                case JUMP:
                    at = code.marks[x];
                    break;
                case BRANCH:
                    at = y != 0 ? code.marks[x] : at;
                    break;
                case STOP:
                    ending = STOPS;
                    break;
                case REVERT:
                    ending = REVERTS;
                    break;
                case DESTROY:
                    ending = DESTROYS;
                    break;
                default:
                    break;
            }
        }

        private int send(int amount) {
            if (amount > (state >> BALANCE_PLACE)) {
                return 0;
            }
            state -= amount << BALANCE_PLACE;
            hasSent = true;
            return 1;
        }

        private void swap(int i, int j) {
            int word = stack[i];
            stack[i] = stack[j];
            stack[j] = word;
        }

        /** The word that has so many words above it, 0 if there is none. */
        private int wordUnder(int above) {
            return above < depth ? stack[depth - 1 - above] : 0;
        }

        private void note(int kind) {
            found[kind] |= 1 << at;
        }
    }

    /**
     * The different ways of one of the transactions. Each of them is a part of some path, so there
     * are too many paths if there are more ways than there may be paths.
     */
    private static final class Ways {
        private final int[] steps = new int[MOST_PATHS * MOST_STEPS];
        private final int[] stepCounts = new int[MOST_PATHS];
        private final int[] shapes = new int[MOST_PATHS];
        private final int[] endings = new int[MOST_PATHS];
        private int count = 0;

        void forget() {
            count = 0;
        }

        /** The number of the way that the machine has just gone; NONE if it is one too many. */
        int numberOf(Machine machine) {
            for (int way = 0; way < count; way++) {
                if (isWayOf(machine, way)) {
                    return way;
                }
            }
            if (count >= MOST_PATHS) {
                return NONE;
            }
            keep(machine, count);
            count++;
            return count - 1;
        }

        int stepOf(int way, int k) {
            return isBelow(k, stepCounts[way]) ? steps[way * MOST_STEPS + k] : NONE;
        }

        private boolean isWayOf(Machine machine, int way) {
            if (shapes[way] != machine.shape || endings[way] != machine.ending
                || stepCounts[way] != machine.stepCount) {
                return false;
            }
            int from = way * MOST_STEPS;
            for (int k = 0; k < machine.stepCount; k++) {
                if (steps[from + k] != machine.steps[k]) {
                    return false;
                }
            }
            return true;
        }

        private void keep(Machine machine, int way) {
            shapes[way] = machine.shape;
            endings[way] = machine.ending;
            stepCounts[way] = machine.stepCount;
            int from = way * MOST_STEPS;
            for (int k = 0; k < machine.stepCount; k++) {
                steps[from + k] = machine.steps[k];
            }
        }
    }

    /** What the transactions of all 64 input numbers come to that begin in one state. */
    private static final class Batch {
        private final Ways ways = new Ways();
        private final int[] wayOf = new int[SINGLES];
        private final int[] states = new int[SINGLES];
        private final int[] found = new int[SINGLES * KINDS];

        void forget() {
            ways.forget();
            Arrays.fill(wayOf, 0);
            Arrays.fill(found, 0);
        }

        /** False if there are too many ways. */
        boolean fill(Machine machine, int before, boolean destroyed, int limit) {
            for (int number = 0; number < SINGLES; number++) {
                machine.transact(number, before, destroyed, limit);
                int way = ways.numberOf(machine);
                if (way == NONE) {
                    return false;
                }
                wayOf[number] = way;
                states[number] = machine.state;
                for (int kind = 0; kind < KINDS; kind++) {
                    found[number * KINDS + kind] = machine.found[kind];
                }
            }
            return true;
        }

        boolean isDestroyed(int number) {
            return ways.endings[wayOf[number]] == DESTROYS;
        }

        /** Whether what follows two of the transactions is the same. */
        boolean areFollowedAlike(int number, int other) {
            return states[number] == states[other] && isDestroyed(number) == isDestroyed(other);
        }

        boolean isFollowedLikeAnEarlierOne(int number) {
            for (int earlier = 0; earlier < number; earlier++) {
                if (areFollowedAlike(earlier, number)) {
                    return true;
                }
            }
            return false;
        }
    }

    /** The paths, in rows as they are met, and the order of these rows by witness. */
    private static final class Paths {
        private final int[] rowByWays = new int[MOST_PATHS * MOST_PATHS];
        private final int[] firstWays = new int[MOST_PATHS];
        private final int[] lastWays = new int[MOST_PATHS];
        private final int[] inputCounts = new int[MOST_PATHS];
        private final int[] witnesses = new int[MOST_PATHS];
        /** The state at the end for the witness. */
        private final int[] states = new int[MOST_PATHS];
        /** Bits in which the states at the end differ among the inputs. */
        private final int[] differences = new int[MOST_PATHS];
        private final int[] order = new int[MOST_PATHS];
        private int count = 0;

        void forget() {
            count = 0;
            Arrays.fill(rowByWays, NONE);
        }

        /** The row of a path by its number, NONE if there is no such path. */
        int rowOf(int path) {
            return isBelow(path, count) ? order[path] : NONE;
        }

        /** Counts an input number; the row of its path, NONE if that is one too many. */
        int meet(int firstWay, int lastWay, int number, int state) {
            int row = rowByWays[firstWay * MOST_PATHS + lastWay];
            if (row == NONE) {
                return open(firstWay, lastWay, number, state);
            }
            inputCounts[row]++;
            differences[row] |= states[row] ^ state;
            if (number < witnesses[row]) {
                witnesses[row] = number;
                states[row] = state;
            }
            return row;
        }

        private int open(int firstWay, int lastWay, int number, int state) {
            if (count >= MOST_PATHS) {
                return NONE;
            }
            int row = count;
            count++;
            rowByWays[firstWay * MOST_PATHS + lastWay] = row;
            firstWays[row] = firstWay;
            lastWays[row] = lastWay;
            inputCounts[row] = 1;
            witnesses[row] = number;
            states[row] = state;
            differences[row] = 0;
            return row;
        }

        void putInOrder() {
            for (int row = 0; row < count; row++) {
                int path = 0;
                for (int other = 0; other < count; other++) {
                    if (witnesses[other] < witnesses[row]) {
                        path++;
                    }
                }
                order[path] = row;
            }
        }
    }

    /** The findings: the least input number of each, and how many input numbers of each path. */
    private static final class Tally {
        private final int[] least = new int[KINDS * MOST_CODE];
        private final int[] counts = new int[MOST_PATHS * KINDS * MOST_CODE];

        Tally() {
            Arrays.fill(least, NONE);
        }

        void forget() {
            Arrays.fill(least, NONE);
            Arrays.fill(counts, 0);
        }

        void note(int row, int kind, int found, int number) {
            int rest = found;
            for (int i = 0; i < MOST_CODE && rest != 0; i++) {
                if ((rest & 1) != 0) {
                    int place = kind * MOST_CODE + i;
                    counts[row * KINDS * MOST_CODE + place]++;
                    if (least[place] == NONE || number < least[place]) {
                        least[place] = number;
                    }
                }
                rest >>>= 1;
            }
        }

        int leastOf(int kind, int i) {
            return least[kind * MOST_CODE + i];
        }

        int countOf(int row, int kind, int i) {
            return counts[(row * KINDS + kind) * MOST_CODE + i];
        }
    }

    /**
     * Runs all input numbers. The second transaction depends on the first one by the state alone, so
     * it is run once for each state that the first ones leave, not once for each input number; that
     * is why input numbers are not met in their order.
     */
    private static final class Exploration {
        /** Of two transactions the first ones; of one transaction blank rows in their place. */
        private final Batch firsts = new Batch();
        private final Batch lasts = new Batch();
        private final Paths paths = new Paths();
        private final Tally tally = new Tally();
        private int transactions = 0;

        void forget() {
            transactions = 0;
            firsts.forget();
            lasts.forget();
            paths.forget();
            tally.forget();
        }

        /** False, as from all that surveys and counts, if there are too many paths. */
        boolean surveySingles(Machine machine, int before, int limit) {
            transactions = 1;
            return lasts.fill(machine, before, false, limit) && countFollowers(0);
        }

        boolean surveyPairs(Machine machine, int before, int limit) {
            transactions = 2;
            if (!firsts.fill(machine, before, false, limit)) {
                return false;
            }
            for (int first = 0; first < SINGLES; first++) {
                if (firsts.isFollowedLikeAnEarlierOne(first)) {
                    continue;
                }
                if (!lasts.fill(machine, firsts.states[first], firsts.isDestroyed(first), limit)
                    || !countFollowersOfAllAlike(first)) {
                    return false;
                }
            }
            return true;
        }

        /** How many paths; TOO_MANY, and no exploration, if not all could be counted. */
        int conclude(boolean isWhole) {
            if (!isWhole) {
                forget();
                return TOO_MANY;
            }
            paths.putInOrder();
            return paths.count;
        }

        Ways waysOf(int t) {
            return t == transactions - 1 ? lasts.ways : firsts.ways;
        }

        int wayOn(int row, int t) {
            return t == transactions - 1 ? paths.lastWays[row] : paths.firstWays[row];
        }

        private boolean countFollowersOfAllAlike(int first) {
            for (int alike = first; alike < SINGLES; alike++) {
                if (firsts.areFollowedAlike(first, alike) && !countFollowers(alike)) {
                    return false;
                }
            }
            return true;
        }

        private boolean countFollowers(int first) {
            for (int last = 0; last < SINGLES; last++) {
                int number = first * SINGLES + last;
                int row = paths.meet(firsts.wayOf[first], lasts.wayOf[last], number, lasts.states[last]);
                if (row == NONE) {
                    return false;
                }
                for (int kind = 0; kind < KINDS; kind++) {
                    int found = firsts.found[first * KINDS + kind] | lasts.found[last * KINDS + kind];
                    tally.note(row, kind, found, number);
                }
            }
            return true;
        }
    }
}
