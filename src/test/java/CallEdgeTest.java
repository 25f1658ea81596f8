import java.util.ArrayList;
import java.util.List;
import java.util.function.IntUnaryOperator;

/** Each sentence of promises 1 to 14 that names a boundary case: each -1, -2 and false, and what then stays. */
public final class CallEdgeTest extends Contracts {
    private static final int[] FAR_OUT = {LOWEST, LOWEST + 1, -65536, -2, 1 << 16, HIGHEST - 1, HIGHEST};

    public static void main(String[] args) {
        test(CallEdgeTest::newCode);
        test(CallEdgeTest::newBalanceAndLimit);
        test(CallEdgeTest::newExploration);
        test(CallEdgeTest::newReplay);
        test(CallEdgeTest::newBesideAnother);
        test(CallEdgeTest::addNumbers);
        test(CallEdgeTest::addWrongOperator);
        test(CallEdgeTest::addWrongArgument);
        test(CallEdgeTest::addToFullCode);
        test(CallEdgeTest::addRefusedChangesNothing);
        test(CallEdgeTest::clearAll);
        test(CallEdgeTest::clearEmpty);
        test(CallEdgeTest::clearKeepsTheRest);
        test(CallEdgeTest::startBounds);
        test(CallEdgeTest::startWrongBalance);
        test(CallEdgeTest::startWrongLimit);
        test(CallEdgeTest::startRefusedChangesNothing);
        test(CallEdgeTest::exploreWrongNumber);
        test(CallEdgeTest::exploreWrongNumberFirst);
        test(CallEdgeTest::exploreTooMany);
        test(CallEdgeTest::exploreBehindTooMany);
        test(CallEdgeTest::exploreInPlace);
        test(CallEdgeTest::inputsOfNoPath);
        test(CallEdgeTest::inputsOfAllPaths);
        test(CallEdgeTest::witnessOfNoPath);
        test(CallEdgeTest::witnessBounds);
        test(CallEdgeTest::endOfNoPath);
        test(CallEdgeTest::endOfNoTransaction);
        test(CallEdgeTest::stepOfNoPath);
        test(CallEdgeTest::stepOfNoTransaction);
        test(CallEdgeTest::stepOfNone);
        test(CallEdgeTest::leftOfNoPath);
        test(CallEdgeTest::leftOfNoPlace);
        test(CallEdgeTest::leftTheSame);
        test(CallEdgeTest::leftNotTheSame);
        test(CallEdgeTest::findingOfNone);
        test(CallEdgeTest::findingOfNothingExplored);
        test(CallEdgeTest::findingInAnyTransaction);
        test(CallEdgeTest::findingLeast);
        test(CallEdgeTest::findingMetLate);
        test(CallEdgeTest::riskOfNoPath);
        test(CallEdgeTest::riskOfNoKind);
        test(CallEdgeTest::riskOfNoInstruction);
        test(CallEdgeTest::riskOfNoFinding);
        test(CallEdgeTest::riskOnceANumber);
        test(CallEdgeTest::replayWrongN);
        test(CallEdgeTest::replayNoSuchNumber);
        test(CallEdgeTest::replayRefusedChangesNothing);
        test(CallEdgeTest::replayedOfNone);
        test(CallEdgeTest::replayedOfAnother);
        test(CallEdgeTest::replayedOfNothing);
        test(CallEdgeTest::replayedOfTheLast);
        test(CallEdgeTest::replayedBehindAFault);
        test(CallEdgeTest::the512Calls);
        Check.finish();
    }

    /** Stops, or faults for input 0: two paths of one transaction, four of two. */
    private static ContractProbe twoPaths() {
        ContractProbe x = with(CALLER, 0, PUSH, 3, STORE, 0, PUSH, 1, SEND, 0, POP, 0, INPUT, 0, ASSERT, 0);
        x.start(8, 24);
        return x;
    }

    private static ContractProbe explored(int n) {
        ContractProbe x = twoPaths();
        x.explore(n);
        return x;
    }

    /** What can be asked without a change, as far as it can differ here. */
    private static List<Integer> answersOf(ContractProbe x) {
        List<Integer> all = new ArrayList<>();
        for (int path = 0; path < 5; path++) {
            all.add(x.inputs(path));
            all.add(x.witness(path));
            all.add(x.end(path, 0));
            all.add(x.end(path, 1));
            all.add(x.step(path, 0, 7));
            all.add(x.step(path, 1, 7));
            all.add(x.left(path, 3));
            all.add(x.left(path, 4));
            all.add(x.risk(path, 0, 7));
        }
        all.add(x.finding(0, 7));
        all.add(x.finding(4, 0));
        for (int i = 0; i < 7; i++) {
            all.add(x.replayed(i));
        }
        return all;
    }

    /** A call answers -1 for these values, and for all that are far out. */
    private static void answersNone(String what, IntUnaryOperator call, int... wrong) {
        for (int value : wrong) {
            due(what + " " + value, call.applyAsInt(value), -1);
        }
        for (int value : FAR_OUT) {
            due(what + " " + value, call.applyAsInt(value), -1);
        }
    }

    private static void same(String what, List<Integer> got, List<Integer> want) {
        Check.isTrue(what + ": " + got + ", due is " + want, got.equals(want));
    }

    private static void newCode() {
        sentence("Promise 1: no code");
        due("it stops at once", new ContractProbe().replay(1, 0), 0);
        due("its first instruction", new ContractProbe().add(REVERT, 0), 0);
        ContractProbe x = new ContractProbe();
        x.explore(1);
        due("no instruction is done", x.step(0, 0, 0), -1);
    }

    private static void newBalanceAndLimit() {
        sentence("Promise 1: balance 0, limit 24");
        comesTo(new ContractProbe(), 1, 0, 0, 0, 0, 0, 0, 0, 24, 0);
        ContractProbe x = with(PUSH, 1, SEND, 0);
        comesTo(x, 1, 0, 0, 0, 0, 0, 0, 0, 18, 1);
        ContractProbe marks = new ContractProbe();
        for (int i = 0; i < 24; i++) {
            marks.add(MARK, 0);
        }
        due("24 instructions", marks.replay(1, 0), 0);
        marks.add(MARK, 0);
        due("25 instructions", marks.replay(1, 0), 2);
    }

    private static void newExploration() {
        sentence("Promise 1: no exploration");
        ContractProbe x = new ContractProbe();
        due("inputs", x.inputs(0), -1);
        due("witness", x.witness(0), -1);
        due("end", x.end(0, 0), -1);
        due("step", x.step(0, 0, 0), -1);
        due("risk", x.risk(0, 0, 0), -1);
        for (int i = 0; i < 5; i++) {
            due("left", x.left(0, i), -1);
            due("finding", x.finding(i, 0), -1);
        }
    }

    private static void newReplay() {
        sentence("Promise 1: no replay");
        ContractProbe x = new ContractProbe();
        for (int i = 0; i < 7; i++) {
            due("replayed(" + i + ")", x.replayed(i), -1);
        }
    }

    private static void newBesideAnother() {
        sentence("Promise 1: a new object has nothing of another one");
        ContractProbe used = explored(2);
        used.replay(2, 4095);
        List<Integer> before = answersOf(used);
        ContractProbe x = new ContractProbe();
        same("new", answersOf(x), answersOf(new ContractProbe()));
        due("its code", x.add(REVERT, 0), 0);
        x.start(3, 5);
        x.explore(1);
        x.replay(1, 0);
        same("the other one", answersOf(used), before);
        due("the other one's code", used.add(STOP, 0), 8);
    }

    private static void addNumbers() {
        sentence("Promise 2: appends an instruction: its number");
        ContractProbe x = new ContractProbe();
        for (int i = 0; i < 32; i++) {
            due("number", x.add(i % 25, i % 16), i);
        }
        ContractProbe bounds = new ContractProbe();
        due("least operator, greatest argument", bounds.add(0, 15), 0);
        due("greatest operator, least argument", bounds.add(24, 0), 1);
        comesTo(bounds, 1, 0, 3, 0, 0, 0, 0, 0, 22, 1);
    }

    private static void addWrongOperator() {
        sentence("Promise 2: -1, refused, if op is not 0 .. 24");
        ContractProbe x = new ContractProbe();
        answersNone("op", op -> x.add(op, 0), -1, 25);
        due("then the first one", x.add(0, 0), 0);
    }

    private static void addWrongArgument() {
        sentence("Promise 2: -1, refused, if a is not 0 .. 15");
        ContractProbe x = new ContractProbe();
        answersNone("a", a -> x.add(0, a), -1, 16);
        answersNone("a of the last operator", a -> x.add(24, a), -1, 16);
        due("then the first one", x.add(0, 0), 0);
    }

    private static void addToFullCode() {
        sentence("Promise 2: -1, refused, if there are 32");
        ContractProbe x = new ContractProbe();
        for (int i = 0; i < 32; i++) {
            x.add(MARK, 0);
        }
        due("the 33rd", x.add(MARK, 0), -1);
        due("the 33rd once more", x.add(PUSH, 15), -1);
        x.clear();
        due("again the first one", x.add(MARK, 0), 0);
    }

    private static void addRefusedChangesNothing() {
        sentence("Promise 2: a refused instruction is not there");
        ContractProbe x = with(PUSH, 7, REVERT, 0);
        x.add(25, 0);
        x.add(-1, 0);
        x.add(DESTROY, 16);
        comesTo(x, 1, 0, 1, 0, 0, 0, 0, 0, 22, 1);
        ContractProbe full = with(PUSH, 1);
        for (int i = 1; i < 32; i++) {
            full.add(MARK, 0);
        }
        full.start(0, 40);
        full.add(DESTROY, 0);
        comesTo(full, 1, 0, 0, 0, 0, 0, 0, 0, 8, 1);
    }

    private static void clearAll() {
        sentence("Promise 3: all code is gone");
        ContractProbe x = with(MARK, 7, REVERT, 0);
        x.clear();
        comesTo(x, 1, 0, 0, 0, 0, 0, 0, 0, 24, 0);
        due("its first instruction", x.add(PUSH, 7), 0);
        x.add(JUMP, 0);
        due("the old MARK is gone, too", x.replay(1, 0), 2);
        x.add(MARK, 7);
        due("a new MARK is the first one", x.replay(1, 0), 0);
    }

    private static void clearEmpty() {
        sentence("Promise 3: clear without code");
        ContractProbe once = new ContractProbe();
        once.clear();
        due("once", once.add(PUSH, 0), 0);
        ContractProbe twice = with(MARK, 0);
        twice.clear();
        twice.clear();
        due("twice", twice.add(PUSH, 0), 0);
    }

    private static void clearKeepsTheRest() {
        sentence("Promise 3: balance, limit, exploration and replay stay");
        ContractProbe x = explored(2);
        x.replay(2, 4095);
        List<Integer> before = answersOf(x);
        x.clear();
        same("answers", answersOf(x), before);
        comesTo(x, 1, 0, 0, 0, 0, 0, 0, 8, 24, 0);
    }

    private static void startBounds() {
        sentence("Promise 4: balance 0 .. 15, limit 1 .. 40, from now on");
        int[][] right = {{0, 1}, {15, 1}, {0, 40}, {15, 40}};
        for (int[] r : right) {
            ContractProbe x = with(MARK, 0);
            Check.isTrue("start(" + r[0] + ", " + r[1] + ")", x.start(r[0], r[1]));
            comesTo(x, 1, 0, 0, 0, 0, 0, 0, r[0], r[1] - 1, 0);
            x.explore(2);
            due("balance", x.left(0, 4), 16 + r[0]);
        }
    }

    private static void startWrongBalance() {
        sentence("Promise 4: false, refused, if balance is not 0 .. 15");
        ContractProbe x = new ContractProbe();
        answersNone("balance", balance -> x.start(balance, 24) ? 0 : -1, -1, 16);
    }

    private static void startWrongLimit() {
        sentence("Promise 4: false, refused, if limit is not 1 .. 40");
        ContractProbe x = new ContractProbe();
        answersNone("limit", limit -> x.start(0, limit) ? 0 : -1, 0, -1, 41);
    }

    private static void startRefusedChangesNothing() {
        sentence("Promise 4: a refused start leaves balance and limit, though one of the two is right");
        ContractProbe x = new ContractProbe();
        x.start(9, 31);
        x.start(16, 5);
        x.start(-1, 5);
        x.start(5, 0);
        x.start(5, 41);
        comesTo(x, 1, 0, 0, 0, 0, 0, 0, 9, 31, 0);
    }

    private static void exploreWrongNumber() {
        sentence("Promise 5: -1, refused, if n is not 1 or 2 (what was explored stays)");
        ContractProbe x = explored(2);
        List<Integer> before = answersOf(x);
        x.clear();
        answersNone("n", n -> x.explore(n), 0, 3, -1);
        same("answers", answersOf(x), before);
    }

    private static void exploreWrongNumberFirst() {
        sentence("Promise 5: -1, refused, and there was nothing explored");
        ContractProbe x = twoPaths();
        due("0", x.explore(0), -1);
        due("3", x.explore(3), -1);
        same("answers", answersOf(x), answersOf(new ContractProbe()));
    }

    private static ContractProbe tooMany() {
        ContractProbe x = twoPaths();
        x.explore(2);
        x.clear();
        appendFortyWays(x);
        return x;
    }

    private static void exploreTooMany() {
        sentence("Promise 5: -2 if there would be more than 40 (there is no exploration then)");
        ContractProbe x = tooMany();
        due("explore", x.explore(2), -2);
        same("answers", answersOf(x), answersOf(new ContractProbe()));
        for (int kind = 0; kind < 5; kind++) {
            for (int i = 0; i < 32; i++) {
                due("finding", x.finding(kind, i), -1);
            }
        }
    }

    private static void exploreBehindTooMany() {
        sentence("Promise 5: an exploration behind one that had too many");
        ContractProbe x = tooMany();
        x.explore(2);
        due("refused: there is still none", x.explore(0), -1);
        due("refused: inputs", x.inputs(0), -1);
        x.clear();
        append(x, CALLER, 0, PUSH, 3, STORE, 0, PUSH, 1, SEND, 0, POP, 0, INPUT, 0, ASSERT, 0);
        due("explore", x.explore(2), 4);
        same("answers", answersOf(x), answersOf(explored(2)));
    }

    private static void exploreInPlace() {
        sentence("Promise 5: explores n transactions, in place of what was explored: how many paths");
        ContractProbe x = explored(2);
        due("one", x.explore(1), 2);
        same("of one", answersOf(x), answersOf(explored(1)));
        due("two", x.explore(2), 4);
        same("of two", answersOf(x), answersOf(explored(2)));
        x.clear();
        due("no code", x.explore(1), 1);
        same("of no code", answersOf(x), answersOf(exploredWithoutCode()));
    }

    private static ContractProbe exploredWithoutCode() {
        ContractProbe x = new ContractProbe();
        x.start(8, 24);
        x.explore(1);
        return x;
    }

    private static void inputsOfNoPath() {
        sentence("Promise 6: -1 if there is no such path");
        ContractProbe x = explored(2);
        due("the last path", x.inputs(3), 60 * 60);
        answersNone("path", path -> x.inputs(path), 4, 40, -1);
    }

    private static void inputsOfAllPaths() {
        sentence("Promise 6: each input number goes one path");
        due("of one", explored(1).inputs(0) + explored(1).inputs(1), 64);
        ContractProbe x = jumpTable(12, 1);
        x.explore(2);
        int all = 0;
        for (int path = 0; path < 40; path++) {
            all += x.inputs(path);
        }
        due("of two", all, 4096);
    }

    private static void witnessOfNoPath() {
        sentence("Promise 7: -1 if there is no such path");
        ContractProbe x = explored(2);
        due("the last path", x.witness(3), 64 * 4 + 4);
        answersNone("path", path -> x.witness(path), 4, 40, -1);
    }

    private static void witnessBounds() {
        sentence("Promise 7: the least and the greatest witness");
        ContractProbe x = with(INPUT, 0, PUSH, 15, EQUAL, 0, ASSERT, 0, CALLER, 0, PUSH, 3, EQUAL, 0, ASSERT, 0);
        due("paths of one", x.explore(1), 3);
        due("the least one", x.witness(0), 0);
        due("the greatest one", x.witness(2), 63);
        due("its inputs", x.inputs(2), 1);
        due("paths of two", x.explore(2), 9);
        due("the least one of two", x.witness(0), 0);
        due("the greatest one of two", x.witness(8), 4095);
        due("its inputs of two", x.inputs(8), 1);
    }

    private static void endOfNoPath() {
        sentence("Promise 8: -1 if there is no such path");
        ContractProbe x = explored(2);
        due("the last path", x.end(3, 1), 0);
        answersNone("path", path -> x.end(path, 0), 4, -1);
    }

    private static void endOfNoTransaction() {
        sentence("Promise 8: -1 if there is no such transaction");
        ContractProbe x = explored(2);
        due("of two: 1", x.end(0, 1), 2);
        answersNone("t", t -> x.end(0, t), 2, -1);
        x.explore(1);
        due("of one: 0", x.end(0, 0), 2);
        due("of one: 1", x.end(0, 1), -1);
    }

    private static void stepOfNoPath() {
        sentence("Promise 9: -1 if there is no such path");
        ContractProbe x = explored(2);
        due("the last path", x.step(3, 1, 7), 7);
        answersNone("path", path -> x.step(path, 0, 0), 4, -1);
    }

    private static void stepOfNoTransaction() {
        sentence("Promise 9: -1 if there is no such transaction");
        ContractProbe x = explored(2);
        answersNone("t", t -> x.step(0, t, 0), 2, -1);
        x.explore(1);
        due("of one: 1", x.step(0, 1, 0), -1);
    }

    private static void stepOfNone() {
        sentence("Promise 9: -1 if there is no k-th instruction");
        ContractProbe x = explored(2);
        due("the first one", x.step(0, 1, 0), 0);
        due("the last one", x.step(0, 1, 7), 7);
        due("of the first transaction of a later path: -1", x.step(3, 0, -1), -1);
        due("of the first transaction of an earlier path: 41", x.step(0, 0, 41), -1);
        answersNone("k", k -> x.step(0, 1, k), 8, -1);
    }

    private static void leftOfNoPath() {
        sentence("Promise 10: -1 if there is no such path");
        ContractProbe x = explored(2);
        due("the last path", x.left(3, 4), 16 + 6);
        answersNone("path", path -> x.left(path, 4), 4, -1);
    }

    private static void leftOfNoPlace() {
        sentence("Promise 10: -1 if there is no such i");
        ContractProbe x = explored(2);
        due("4", x.left(0, 4), 16 + 8);
        answersNone("i", i -> x.left(0, i), 5, -1);
    }

    private static void leftTheSame() {
        sentence("Promise 10: 16 more if it is the same for all inputs that go it");
        ContractProbe x = with(PUSH, 15, PUSH, 2, STORE, 0);
        x.start(15, 24);
        x.explore(2);
        due("the least word", x.left(0, 0), 16);
        due("the greatest word", x.left(0, 2), 31);
        due("the greatest balance", x.left(0, 4), 31);
        ContractProbe alone = with(INPUT, 0, PUSH, 0, STORE, 0, CALLER, 0, PUSH, 3, EQUAL, 0, INPUT, 0, PUSH, 15, EQUAL, 0);
        append(alone, AND, 0, ASSERT, 0);
        alone.explore(1);
        due("one input alone: inputs", alone.inputs(1), 1);
        due("one input alone: cell", alone.left(1, 0), 31);
    }

    private static void leftNotTheSame() {
        sentence("Promise 10: for its witness, if it is not the same for all");
        ContractProbe one = with(INPUT, 0, PUSH, 15, EQUAL, 0, PUSH, 1, STORE, 0, INPUT, 0, SEND, 0, PUSH, 2, STORE, 0);
        one.start(14, 24);
        one.explore(1);
        due("only the greatest input differs: cell", one.left(0, 1), 0);
        due("only the greatest input is refused: cell", one.left(0, 2), 1);
        due("balance", one.left(0, 4), 14);
        due("another cell", one.left(0, 3), 16);
        one.explore(2);
        due("of two: cell", one.left(0, 1), 0);
        due("of two: balance", one.left(0, 4), 14);
    }

    private static void findingOfNone() {
        sentence("Promise 11: -1 if there is none such");
        ContractProbe x = explored(1);
        due("there is one", x.finding(0, 7), 0);
        due("no such finding", x.finding(1, 7), -1);
        due("behind the code", x.finding(4, 8), -1);
        due("instruction 31", x.finding(4, 31), -1);
        due("instruction -25 of the next kind", x.finding(1, 7 - 32), -1);
        answersNone("instruction", k -> x.finding(0, k), 32, -1);
        answersNone("instruction of the next kind", k -> x.finding(1, k), 32, -1);
        answersNone("kind", kind -> x.finding(kind, 7), 5, -1);
    }

    private static void findingOfNothingExplored() {
        sentence("Promise 11: -1 if nothing is explored");
        ContractProbe x = twoPaths();
        due("not explored", x.finding(0, 7), -1);
        x.replay(1, 0);
        due("a replay does not count", x.finding(0, 7), -1);
    }

    private static void findingInAnyTransaction() {
        sentence("Promise 11: in any of its transactions");
        ContractProbe second = with(PUSH, 0, LOAD, 0, ZERO, 0, ASSERT, 0, PUSH, 1, PUSH, 0, STORE, 0);
        second.explore(1);
        due("the first one has none", second.finding(0, 3), -1);
        second.explore(2);
        due("the second one has", second.finding(0, 3), 0);
        ContractProbe first = with(DESTROY, 0);
        first.explore(2);
        due("the first one has, the second does nothing", first.finding(2, 0), 64);
    }

    private static void findingLeast() {
        sentence("Promise 11: the least input number of those explored");
        ContractProbe x = with(INPUT, 0, PUSH, 1, ADD, 0, CALLER, 0, PUSH, 3, EQUAL, 0, ASSERT, 0);
        x.explore(1);
        due("of one", x.finding(1, 2), 60);
        x.explore(2);
        due("of two, the second has it", x.finding(1, 2), 60);
        ContractProbe last = with(INPUT, 0, PUSH, 15, EQUAL, 0, CALLER, 0, PUSH, 3, EQUAL, 0, AND, 0, ZERO, 0, ASSERT, 0);
        last.explore(1);
        due("the greatest one of one", last.finding(0, 8), 63);
    }

    /** Callers 0 and 2 leave the same cells, and 1 others: the least one with a finding is 1 none the less. */
    private static void findingMetLate() {
        sentence("Promise 11: the least input number, though a greater one leaves what a lesser one leaves");
        ContractProbe x = with(PUSH, 0, LOAD, 0, PUSH, 15, BRANCH, 0, CALLER, 0, PUSH, 15, ADD, 0, POP, 0);
        append(x, CALLER, 0, PUSH, 1, AND, 0, PUSH, 1, ADD, 0, PUSH, 0, STORE, 0, MARK, 15);
        x.explore(2);
        due("ADD", x.finding(1, 6), 64);
    }

    private static void riskOfNoPath() {
        sentence("Promise 12: -1 if there is no such path");
        ContractProbe x = explored(2);
        due("the first path", x.risk(0, 0, 7), 16);
        answersNone("path", path -> x.risk(path, 0, 7), 4, -1);
    }

    private static void riskOfNoKind() {
        sentence("Promise 12: -1 if there is no such kind");
        ContractProbe x = explored(2);
        due("4", x.risk(0, 4, 7), 0);
        due("-1 of the next path", x.risk(1, -1, 7), -1);
        answersNone("kind", kind -> x.risk(0, kind, 7), 5, -1);
    }

    private static void riskOfNoInstruction() {
        sentence("Promise 12: -1 if i is not 0 .. 31");
        ContractProbe x = explored(2);
        due("0", x.risk(0, 0, 0), 0);
        due("31", x.risk(0, 0, 31), 0);
        due("-1 of the next path", x.risk(1, 1, -1), -1);
        due("-25 of the next kind", x.risk(0, 1, 7 - 32), -1);
        answersNone("i", i -> x.risk(0, 0, i), 32, -1);
    }

    private static void riskOfNoFinding() {
        sentence("Promise 12: 0 if none of its input numbers has it");
        ContractProbe x = explored(2);
        due("the last path has no fault", x.risk(3, 0, 7), 0);
        due("the others have", x.risk(2, 0, 7), 60 * 4);
        due("there is no instruction 8", x.risk(0, 0, 8), 0);
        x.clear();
        x.explore(1);
        due("no code", x.risk(0, 4, 0), 0);
    }

    private static void riskOnceANumber() {
        sentence("Promise 12: for how many input numbers there is a finding (one or more)");
        ContractProbe both = with(PUSH, 15, PUSH, 1, ADD, 0);
        both.explore(2);
        due("one in each transaction", both.risk(0, 1, 2), 4096);
        ContractProbe round = with(MARK, 0, PUSH, 0, PUSH, 1, SUB, 0, POP, 0, PUSH, 0, JUMP, 0);
        round.explore(1);
        due("one in each round", round.risk(0, 1, 3), 64);
    }

    private static void replayWrongN() {
        sentence("Promise 13: -1, refused, if n is not 1 or 2");
        ContractProbe x = twoPaths();
        answersNone("n", n -> x.replay(n, 0), 0, 3, -1);
        due("there is no replay", x.replayed(0), -1);
    }

    private static void replayNoSuchNumber() {
        sentence("Promise 13: -1, refused, if there is no such number");
        ContractProbe x = twoPaths();
        answersNone("number of one", number -> x.replay(1, number), 64, -1);
        answersNone("number of two", number -> x.replay(2, number), 4096, -1);
        due("there is no replay", x.replayed(0), -1);
        comesTo(x, 1, 63, 0, 0, 0, 0, 3, 7, 10, 0);
        comesTo(x, 2, 64, 2, 0, 0, 0, 0, 8, 11, 1);
        comesTo(x, 2, 4095, 0, 0, 0, 0, 3, 6, 10, 0);
    }

    private static void replayRefusedChangesNothing() {
        sentence("Promise 13: refused (the replay there is stays)");
        ContractProbe x = explored(2);
        x.replay(2, 4095);
        List<Integer> before = answersOf(x);
        x.clear();
        x.start(2, 2);
        int[][] wrong = {{0, 0}, {3, 0}, {1, 64}, {1, -1}, {2, 4096}, {2, -1}};
        for (int[] w : wrong) {
            due("replay(" + w[0] + ", " + w[1] + ")", x.replay(w[0], w[1]), -1);
        }
        same("answers", answersOf(x), before);
    }

    private static void replayedOfNone() {
        sentence("Promise 14: -1 if there was none");
        ContractProbe x = explored(2);
        for (int i = 0; i < 7; i++) {
            due("an exploration is none: " + i, x.replayed(i), -1);
        }
    }

    private static void replayedOfAnother() {
        sentence("Promise 14: -1 for another i");
        ContractProbe x = twoPaths();
        x.replay(1, 0);
        due("6", x.replayed(6), 1);
        answersNone("i", i -> x.replayed(i), 7, -1);
    }

    private static void replayedOfNothing() {
        sentence("Promise 14: gas and words are 0 if it did nothing");
        ContractProbe x = with(PUSH, 1, PUSH, 2, DESTROY, 0);
        comesTo(x, 1, 0, 3, 0, 0, 0, 0, 0, 21, 2);
        comesTo(x, 2, 0, 4, 0, 0, 0, 0, 0, 0, 0);
    }

    private static void replayedOfTheLast() {
        sentence("Promise 14: gas and words of the last transaction, of the latest replay");
        ContractProbe x = with(INPUT, 0, DUP, 0, PUSH, 1, BRANCH, 0, POP, 0, STOP, 0, MARK, 1);
        comesTo(x, 2, 64 * 4, 0, 0, 0, 0, 0, 0, 18, 0);
        comesTo(x, 2, 4, 0, 0, 0, 0, 0, 0, 19, 1);
        ContractProbe six = with(PUSH, 1, PUSH, 1, PUSH, 1, PUSH, 1, PUSH, 1, PUSH, 1);
        six.start(0, 6);
        comesTo(six, 1, 0, 0, 0, 0, 0, 0, 0, 0, 6);
    }

    private static void replayedBehindAFault() {
        sentence("Promise 14: a transaction that faults leaves gas and stack as they were before that instruction");
        int[] faulty = {ASSERT, JUMP};
        for (int op : faulty) {
            comesTo(with(PUSH, 7, PUSH, 0, op, 0), 1, 0, 2, 0, 0, 0, 0, 0, 22, 2);
        }
        comesTo(with(PUSH, 7, PUSH, 7, BRANCH, 0), 1, 0, 2, 0, 0, 0, 0, 0, 22, 2);
        comesTo(with(PUSH, 7, STORE, 0), 1, 0, 2, 0, 0, 0, 0, 0, 23, 1);
        ContractProbe send = with(PUSH, 7, SEND, 0);
        send.start(9, 5);
        comesTo(send, 1, 0, 2, 0, 0, 0, 0, 9, 4, 1);
    }

    private static void the512Calls() {
        sentence("An object is used for at most 512 calls after it has been made");
        ContractProbe x = twoPaths();
        for (int call = 10; call <= 512; call++) {
            boolean isExplore = call % 2 == 0;
            due("call " + call, isExplore ? x.explore(2) : x.left(3, 4), isExplore ? 4 : 16 + 6);
        }
    }
}
