/** Each promise with examples worked out by hand: ordinary inputs, the edges the document names, wrong inputs. */
public final class PromiseTest extends Contracts {
    public static void main(String[] args) {
        newObject();
        adding();
        clearing();
        starting();
        exploring();
        tooManyPaths();
        inputsAndWitness();
        ends();
        steps();
        left();
        findings();
        findingsInFaults();
        risks();
        replays();
        replayedWords();
        operators();
        stackFaults();
        gas();
        jumps();
        changesBehindTheBack();
        Check.finish();
    }

    private static void newObject() {
        ContractProbe x = new ContractProbe();
        due("new: inputs", x.inputs(0), -1);
        due("new: witness", x.witness(0), -1);
        due("new: end", x.end(0, 0), -1);
        due("new: step", x.step(0, 0, 0), -1);
        due("new: left", x.left(0, 0), -1);
        due("new: risk", x.risk(0, 0, 0), -1);
        for (int kind = 0; kind < 5; kind++) {
            due("new: finding", x.finding(kind, 0), -1);
        }
        for (int i = -1; i <= 7; i++) {
            due("new: replayed", x.replayed(i), -1);
        }
        due("new: replay", x.replay(1, 63), 0);
        due("new: balance", x.replayed(4), 0);
        due("new: limit", x.replayed(5), 24);
        due("new: first number", x.add(PUSH, 0), 0);
    }

    private static void adding() {
        ContractProbe x = new ContractProbe();
        int[][] wrong = {{-1, 0}, {25, 0}, {0, -1}, {0, 16}, {LOWEST, 0}, {HIGHEST, 0}, {0, LOWEST}, {0, HIGHEST}};
        for (int[] w : wrong) {
            due("add wrong", x.add(w[0], w[1]), -1);
        }
        for (int i = 0; i < 32; i++) {
            due("add", x.add(i % 25, i % 16), i);
            due("add wrong in between", x.add(25, 0), -1);
        }
        due("add the 33rd", x.add(PUSH, 0), -1);
        due("add the 33rd again", x.add(DESTROY, 15), -1);
    }

    private static void clearing() {
        ContractProbe x = with(MARK, 1, REVERT, 0);
        x.clear();
        due("clear: explore", x.explore(1), 1);
        due("clear: end", x.end(0, 0), 0);
        due("clear: number", x.add(PUSH, 1), 0);
        x.add(JUMP, 0);
        x.explore(1);
        due("clear: the mark is gone, too", x.end(0, 0), 2);
        for (int i = 2; i < 32; i++) {
            x.add(MARK, 0);
        }
        due("clear: full", x.add(MARK, 0), -1);
        x.clear();
        due("clear: room again", x.add(MARK, 0), 0);
        x.clear();
        x.clear();
        due("clear twice", x.add(MARK, 0), 0);
    }

    private static void starting() {
        ContractProbe x = with(BALANCE, 0);
        Check.isTrue("start", x.start(7, 31));
        int[][] wrong = {{-1, 5}, {16, 5}, {5, 0}, {5, 41}, {5, -1}, {LOWEST, 5}, {HIGHEST, 5}, {5, LOWEST}, {5, HIGHEST}};
        for (int[] w : wrong) {
            Check.isTrue("start wrong", !x.start(w[0], w[1]));
        }
        x.replay(1, 0);
        due("start: balance", x.replayed(4), 7);
        due("start: gas", x.replayed(5), 30);
        int[][] right = {{0, 1}, {15, 1}, {0, 40}, {15, 40}};
        for (int[] r : right) {
            Check.isTrue("start right", x.start(r[0], r[1]));
            x.replay(1, 0);
            due("start right: balance", x.replayed(4), r[0]);
            due("start right: gas", x.replayed(5), r[1] - 1);
        }
    }

    private static void exploring() {
        ContractProbe x = with(INPUT, 0, ASSERT, 0);
        due("explore 1", x.explore(1), 2);
        int[] wrong = {0, 3, -1, -2, LOWEST, HIGHEST};
        for (int n : wrong) {
            due("explore wrong", x.explore(n), -1);
            due("explore wrong: stays", x.inputs(1), 60);
        }
        due("explore 2", x.explore(2), 4);
        due("explore 2: inputs", x.inputs(3), 3600);
        due("explore 1 again", x.explore(1), 2);
        due("explore 1 again: no path 2", x.inputs(2), -1);
        due("explore 1 again: inputs", x.inputs(0), 4);
        ContractProbe same = with(INPUT, 0, PUSH, 2, BRANCH, 0, MARK, 2);
        due("the same instructions by a jump or not", same.explore(1), 1);
        ContractProbe last = with(INPUT, 0, ASSERT, 0);
        due("the same instructions with two ends", last.explore(1), 2);
        due("the same instructions: step", last.step(0, 0, 1), last.step(1, 0, 1));
    }

    /** A loop that goes round as often as the input says, of 6 gas a round. */
    private static ContractProbe countDown(int limit) {
        ContractProbe x = with(INPUT, 0, MARK, 0, PUSH, 1, SUB, 0, DUP, 0, PUSH, 0, BRANCH, 0);
        x.start(0, limit);
        return x;
    }

    private static void tooManyPaths() {
        ContractProbe x = countDown(40);
        due("7 ways of one", x.explore(1), 7);
        due("49 paths", x.explore(2), -2);
        due("too many: inputs", x.inputs(0), -1);
        due("too many: witness", x.witness(0), -1);
        due("too many: end", x.end(0, 0), -1);
        due("too many: step", x.step(0, 0, 0), -1);
        due("too many: left", x.left(0, 0), -1);
        due("too many: risk", x.risk(0, 1, 3), -1);
        due("too many: finding", x.finding(1, 3), -1);
        x.start(0, 36);
        due("36 paths", x.explore(2), 36);
        due("36 paths: finding", x.finding(1, 3), 0);
        x.start(0, 40);
        due("too many again", x.explore(2), -2);
        due("too many again: wrong n", x.explore(0), -1);
        due("too many again: finding", x.finding(1, 3), -1);
        fortyAndMore();
    }

    private static void fortyAndMore() {
        due("12 that destroy, 2 others: 12 + 2 * 14 paths", jumpTable(12, 1).explore(2), 40);
        due("8 that destroy, 3 others: 8 + 3 * 11 paths", jumpTable(8, 2).explore(2), -2);
        due("8 that destroy, 3 others, alone", jumpTable(8, 2).explore(1), 11);
        ContractProbe x = new ContractProbe();
        x.start(0, 40);
        appendFortyWays(x);
        due("40 ways of one", x.explore(1), 40);
        due("40 ways of one: the last one", x.witness(39), 39);
        due("40 ways of one: inputs 9 to 15 of caller 3", x.inputs(39), 7);
        due("1600 paths", x.explore(2), -2);
        due("40 ways of one again", x.explore(1), 40);
        x.clear();
        append(x, INPUT, 0, PUSH, 15, EQUAL, 0, ZERO, 0, ASSERT, 0);
        appendFortyWays(x);
        due("41 ways of one", x.explore(1), -2);
        due("41 ways of one: none is there", x.inputs(0), -1);
        due("41 ways of the first one", x.explore(2), -2);
        manyExplorations();
    }

    /** What earlier explorations met must not count in a later one. */
    private static void manyExplorations() {
        ContractProbe x = new ContractProbe();
        for (int marks = 0; marks <= 28; marks++) {
            x.clear();
            for (int i = 0; i < marks; i++) {
                x.add(MARK, 1);
            }
            append(x, INPUT, 0, ASSERT, 0, CALLER, 0, ASSERT, 0);
            x.start(0, 40);
            due("three ways behind " + marks + " marks", x.explore(1), 3);
            due("nine paths behind " + marks + " marks", x.explore(2), 9);
        }
        due("the finding of the last one", x.finding(0, 29), 0);
        x.clear();
        due("no code", x.explore(1), 1);
        due("no code: finding", x.finding(0, 29), -1);
        due("no code: risk", x.risk(0, 0, 29), 0);
    }

    private static void inputsAndWitness() {
        ContractProbe x = with(INPUT, 0, PUSH, 9, LESS, 0, ASSERT, 0, CALLER, 0, PUSH, 2, EQUAL, 0, ASSERT, 0);
        due("three paths", x.explore(1), 3);
        int[][] want = {{27, 0}, {9, 2}, {28, 36}};
        for (int path = 0; path < 3; path++) {
            due("inputs", x.inputs(path), want[path][0]);
            due("witness", x.witness(path), want[path][1]);
        }
        int[] wrong = {-1, 3, 40, LOWEST, HIGHEST};
        for (int path : wrong) {
            due("inputs wrong", x.inputs(path), -1);
            due("witness wrong", x.witness(path), -1);
        }
        due("nine paths", x.explore(2), 9);
        int[] witnesses = {0, 2, 36, 128, 130, 164, 2304, 2306, 2340};
        for (int path = 0; path < 9; path++) {
            due("witness of two", x.witness(path), witnesses[path]);
            due("inputs of two", x.inputs(path), want[path / 3][0] * want[path % 3][0]);
        }
    }

    private static void ends() {
        ContractProbe x = with(INPUT, 0, JUMP, 0, MARK, 0, STOP, 0, MARK, 1, REVERT, 0, MARK, 2, DESTROY, 0, MARK, 3);
        due("ends: paths", x.explore(1), 5);
        int[] want = {0, 1, 3, 0, 2};
        for (int path = 0; path < 5; path++) {
            due("end", x.end(path, 0), want[path]);
            due("end of no second one", x.end(path, 1), -1);
        }
        due("ends of two: paths", x.explore(2), 21);
        due("destroyed: first", x.end(10, 0), 3);
        due("destroyed: second", x.end(10, 1), 4);
        due("destroyed: inputs", x.inputs(10), 256);
        due("behind a fault: first", x.end(16, 0), 2);
        due("behind a fault: last", x.end(20, 1), 2);
        int[] wrong = {-1, 2, LOWEST, HIGHEST};
        for (int t : wrong) {
            due("end of a wrong transaction", x.end(0, t), -1);
        }
        due("end of a wrong path", x.end(21, 0), -1);
        due("end of a wrong path", x.end(-1, 0), -1);
        ContractProbe empty = new ContractProbe();
        due("no code: paths", empty.explore(2), 1);
        due("no code: first", empty.end(0, 0), 0);
        due("no code: second", empty.end(0, 1), 0);
        due("no code: step", empty.step(0, 0, 0), -1);
    }

    private static void steps() {
        ContractProbe x = with(PUSH, 4, JUMP, 0, REVERT, 0, MARK, 4, CALLER, 0, ASSERT, 0, STOP, 0);
        due("steps: paths", x.explore(2), 4);
        int[] fault = {0, 1, 3, 4, 5, -1};
        int[] good = {0, 1, 3, 4, 5, 6, -1};
        for (int k = 0; k < fault.length; k++) {
            due("step, the fault among them", x.step(0, 0, k), fault[k]);
            due("step, the first of path 1", x.step(1, 0, k), fault[k]);
        }
        for (int k = 0; k < good.length; k++) {
            due("step, the second of path 1", x.step(1, 1, k), good[k]);
            due("step, the first of path 2", x.step(2, 0, k), good[k]);
        }
        due("step -1", x.step(0, 0, -1), -1);
        due("step lowest", x.step(0, 0, LOWEST), -1);
        due("step highest", x.step(0, 0, HIGHEST), -1);
        due("step of t 2", x.step(0, 2, 0), -1);
        due("step of t -1", x.step(0, -1, 0), -1);
        due("step of path 4", x.step(4, 0, 0), -1);
        due("step of path -1", x.step(-1, 0, 0), -1);
        x.explore(1);
        due("step of t 1 of one", x.step(0, 1, 0), -1);
        ContractProbe round = with(PUSH, 0, JUMP, 0, MARK, 0, PUSH, 0, JUMP, 0);
        round.start(0, 40);
        round.explore(1);
        due("40 gas and one that has none", round.step(0, 0, 40), 4);
        due("not more", round.step(0, 0, 41), -1);
        due("a step with no gas left", round.finding(4, 4), 0);
    }

    private static void left() {
        ContractProbe x = with(INPUT, 0, PUSH, 5, STORE, 0, PUSH, 7, PUSH, 2, STORE, 0, CALLER, 0, SEND, 0);
        x.start(2, 40);
        due("left: paths", x.explore(1), 1);
        int[] want = {16, 0, 16 + 7, 16, 2};
        for (int i = 0; i < 5; i++) {
            due("left", x.left(0, i), want[i]);
        }
        int[] wrong = {-1, 5, LOWEST, HIGHEST};
        for (int i : wrong) {
            due("left wrong", x.left(0, i), -1);
        }
        due("left of no path", x.left(1, 0), -1);
        due("left of path -1", x.left(-1, 0), -1);
        ContractProbe undone = with(PUSH, 9, PUSH, 0, STORE, 0, PUSH, 3, SEND, 0, INPUT, 0, ASSERT, 0);
        undone.start(4, 40);
        undone.explore(2);
        due("both fault: cell", undone.left(0, 0), 16);
        due("both fault: balance", undone.left(0, 4), 20);
        due("the second one works: cell", undone.left(1, 0), 25);
        due("the second one works: balance", undone.left(1, 4), 17);
        due("both work: balance", undone.left(3, 4), 17);
        leftForTheWitness();
    }

    /** Which input numbers go a path may be found in any order: the least one's words count. */
    private static void leftForTheWitness() {
        ContractProbe x = with(INPUT, 0, PUSH, 1, AND, 0, PUSH, 0, STORE, 0, CALLER, 0, PUSH, 1, STORE, 0);
        append(x, INPUT, 0, PUSH, 4, LESS, 0, ASSERT, 0, PUSH, 0, LOAD, 0, ASSERT, 0);
        x.start(0, 40);
        due("three ends of each", x.explore(2), 9);
        int[] witnesses = {0, 4, 16, 256, 260, 272, 1024, 1028, 1040};
        int[] cell0 = {16, 17, 16, 17, 17, 17, 16, 17, 16};
        int[] cell1 = {16, 0, 16, 0, 0, 0, 16, 0, 16};
        for (int path = 0; path < 9; path++) {
            due("its witness", x.witness(path), witnesses[path]);
            due("its cell 0", x.left(path, 0), cell0[path]);
            due("its cell 1", x.left(path, 1), cell1[path]);
        }
        ContractProbe late = with(INPUT, 0, ASSERT, 0, INPUT, 0, PUSH, 1, ADD, 0, PUSH, 0, STORE, 0);
        due("input 15 leaves what a fault leaves", late.explore(2), 4);
        int[][] want = {{0, 16}, {4, 2}, {256, 2}, {260, 2}};
        for (int path = 0; path < 4; path++) {
            due("the least one", late.witness(path), want[path][0]);
            due("its cell", late.left(path, 0), want[path][1]);
        }
        ContractProbe kept = with(PUSH, 0, LOAD, 0, ASSERT, 0, REVERT, 0);
        due("only faults", kept.explore(2), 1);
        due("cells as they were", kept.left(0, 0), 16);
    }

    private static void findings() {
        ContractProbe x = with(INPUT, 0, PUSH, 1, SUB, 0, PUSH, 3, MUL, 0, PUSH, 2, ADD, 0, ASSERT, 0);
        x.explore(1);
        due("SUB below 0", x.finding(1, 2), 0);
        due("MUL above 15", x.finding(1, 4), 0);
        due("ADD: 0 * 3 .. 13 is not", x.finding(1, 6), 24);
        due("ASSERT: 10 * 3 + 2", x.finding(0, 7), 44);
        due("SUB: so many", x.risk(0, 1, 2), 4);
        due("MUL: 6 .. 15 do, 10 on another path", x.risk(0, 1, 4), 36);
        due("MUL: 10", x.risk(1, 1, 4), 4);
        ContractProbe edge = with(INPUT, 0, PUSH, 1, ADD, 0, INPUT, 0, PUSH, 3, SUB, 0, PUSH, 5, INPUT, 0, MUL, 0);
        edge.explore(1);
        due("sum 16", edge.finding(1, 2), 60);
        due("2 - 3", edge.risk(0, 1, 5), 12);
        due("5 * 4 is, 5 * 3 is not", edge.finding(1, 8), 16);
        ContractProbe sixteen = with(PUSH, 4, INPUT, 0, MUL, 0);
        sixteen.explore(1);
        due("4 * 4 is", sixteen.finding(1, 2), 16);
        ContractProbe open = with(DESTROY, 0);
        open.explore(2);
        due("OPEN: caller 1 of the first", open.finding(2, 0), 64);
        due("OPEN: not in what does nothing", open.risk(0, 2, 0), 3072);
        ContractProbe late = with(PUSH, 0, PUSH, 0, STORE, 0, INPUT, 0, SEND, 0, PUSH, 0, STORE, 0);
        late.start(3, 40);
        late.explore(1);
        due("not LATE before", late.finding(3, 2), -1);
        due("LATE behind a SEND of 0", late.finding(3, 6), 0);
        due("not LATE behind one that put 0", late.risk(0, 3, 6), 16);
        late.explore(2);
        due("not LATE behind one of the other transaction", late.finding(3, 2), -1);
        int[][] wrong = {{-1, 2}, {5, 2}, {1, -1}, {1, 32}, {LOWEST, 0}, {HIGHEST, 0}, {0, LOWEST}, {0, HIGHEST}};
        for (int[] w : wrong) {
            due("finding wrong", x.finding(w[0], w[1]), -1);
        }
        ContractProbe undone = with(PUSH, 15, PUSH, 15, ADD, 0, REVERT, 0);
        undone.explore(1);
        due("a finding though it reverts", undone.finding(1, 2), 0);
        ContractProbe whole = new ContractProbe();
        append(whole, PUSH, 0, PUSH, 1);
        for (int i = 2; i < 31; i++) {
            whole.add(MARK, 0);
        }
        whole.add(SUB, 0);
        whole.start(0, 40);
        whole.explore(1);
        due("a finding at instruction 31", whole.finding(1, 31), 0);
        due("its risk", whole.risk(0, 1, 31), 64);
    }

    private static void findingsInFaults() {
        ContractProbe x = with(INPUT, 0, ASSERT, 0, ASSERT, 0);
        x.explore(1);
        due("ASSERT takes 0", x.finding(0, 1), 0);
        due("which is no other fault", x.finding(4, 1), -1);
        due("ASSERT without a word", x.finding(4, 2), 4);
        due("which is not kind 0", x.finding(0, 2), -1);
        ContractProbe poor = with(PUSH, 0, ASSERT, 0);
        poor.start(0, 1);
        poor.explore(1);
        due("ASSERT out of gas", poor.finding(4, 1), 0);
        due("ASSERT out of gas is not kind 0", poor.finding(0, 1), -1);
        ContractProbe mul = with(PUSH, 5, PUSH, 5, MUL, 0);
        mul.start(0, 4);
        mul.explore(1);
        due("MUL out of gas", mul.finding(4, 2), 0);
        due("MUL out of gas is no overflow", mul.finding(1, 2), -1);
        ContractProbe destroy = with(MARK, 0, DESTROY, 0);
        destroy.start(0, 1);
        destroy.explore(1);
        due("DESTROY out of gas", destroy.finding(4, 1), 0);
        due("DESTROY out of gas is not open", destroy.finding(2, 1), -1);
        ContractProbe store = with(PUSH, 0, SEND, 0, STORE, 0);
        store.explore(1);
        due("STORE with one word", store.finding(4, 2), 0);
        due("STORE with one word is not late", store.finding(3, 2), -1);
        ContractProbe second = with(PUSH, 0, LOAD, 0, ZERO, 0, ASSERT, 0, PUSH, 1, PUSH, 0, STORE, 0);
        second.explore(2);
        due("ASSERT of the second one", second.finding(0, 3), 0);
        due("for all", second.risk(0, 0, 3), 4096);
    }

    private static void risks() {
        ContractProbe x = with(CALLER, 0, PUSH, 14, ADD, 0, POP, 0, INPUT, 0, ASSERT, 0);
        x.explore(2);
        due("one of the two or both", x.risk(0, 1, 2), 4 * 4 - 2 * 2);
        due("on the greatest path", x.risk(3, 1, 2), 60 * 60 - 30 * 30);
        due("no finding", x.risk(3, 0, 5), 0);
        due("a finding of all", x.risk(0, 0, 5), 16);
        due("behind the code", x.risk(0, 0, 31), 0);
        int[][] wrong = {{-1, 0, 0}, {4, 0, 0}, {0, -1, 0}, {0, 5, 0}, {0, 0, -1}, {0, 0, 32},
            {LOWEST, 0, 0}, {HIGHEST, 0, 0}, {0, LOWEST, 0}, {0, HIGHEST, 0}, {0, 0, LOWEST}, {0, 0, HIGHEST}};
        for (int[] w : wrong) {
            due("risk wrong", x.risk(w[0], w[1], w[2]), -1);
        }
        ContractProbe often = with(PUSH, 2, INPUT, 0, MARK, 1, PUSH, 9, ADD, 0, SWAP, 0, PUSH, 1, SUB, 0, SWAP, 0);
        append(often, DUP, 1, PUSH, 1, BRANCH, 0);
        often.start(0, 40);
        due("a loop of two rounds", often.explore(1), 1);
        due("an input number counts once", often.risk(0, 1, 4), 64);
    }

    private static void replays() {
        ContractProbe x = with(CALLER, 0, INPUT, 0, LESS, 0, ASSERT, 0, INPUT, 0, PUSH, 3, STORE, 0, DESTROY, 0);
        due("replay: caller 1, input 1", x.replay(1, 5), 2);
        due("replay: caller 0, input 1", x.replay(1, 4), 3);
        due("its cell", x.replayed(3), 1);
        int[][] wrong = {{0, 0}, {3, 0}, {-1, 0}, {1, -1}, {1, 64}, {2, -1}, {2, 4096},
            {LOWEST, 0}, {HIGHEST, 0}, {1, LOWEST}, {1, HIGHEST}, {2, LOWEST}, {2, HIGHEST}};
        for (int[] w : wrong) {
            due("replay wrong", x.replay(w[0], w[1]), -1);
            due("replay wrong: stays", x.replayed(3), 1);
        }
        due("number 63", x.replay(1, 63), 3);
        due("number 63: cell", x.replayed(3), 15);
        due("number 4095", x.replay(2, 4095), 4);
        due("number 4095: cell", x.replayed(3), 15);
        due("number 4095: gas", x.replayed(5), 0);
        due("number 4095: words", x.replayed(6), 0);
        due("the first one faults", x.replay(2, 64 * 1 + 9), 3);
        due("the first one faults: cell", x.replayed(3), 2);
        due("replay is no exploration", x.inputs(0), -1);
    }

    private static void replayedWords() {
        ContractProbe x = with(PUSH, 9, PUSH, 1, STORE, 0, PUSH, 2, SEND, 0, INPUT, 0, ASSERT, 0, CALLER, 0);
        x.start(3, 20);
        due("fault", x.replay(1, 3), 2);
        int[] fault = {0, 0, 0, 0, 3, 8, 2};
        for (int i = 0; i < 7; i++) {
            due("replayed, fault, " + i, x.replayed(i), fault[i]);
        }
        due("no fault", x.replay(1, 7), 0);
        int[] good = {0, 9, 0, 0, 1, 6, 2};
        for (int i = 0; i < 7; i++) {
            due("replayed, no fault, " + i, x.replayed(i), good[i]);
        }
        due("the second SEND puts 0", x.replay(2, 64 * 4 + 4), 0);
        due("the second SEND: balance", x.replayed(4), 1);
        int[] wrong = {-1, 7, LOWEST, HIGHEST};
        for (int i : wrong) {
            due("replayed wrong", x.replayed(i), -1);
        }
        ContractProbe revert = with(PUSH, 9, DUP, 0, PUSH, 1, STORE, 0, REVERT, 0);
        due("revert", revert.replay(2, 0), 1);
        due("revert: cell", revert.replayed(1), 0);
        due("revert: gas", revert.replayed(5), 17);
        due("revert: words", revert.replayed(6), 1);
    }

    /** The word that code leaves on the stack for an input, seen by storing it in cell 0. */
    private static void leaves(String what, int want, int input, int caller, int... code) {
        ContractProbe x = with(code);
        append(x, PUSH, 0, STORE, 0);
        x.start(6, 40);
        due(what + " ends", x.replay(1, 4 * input + caller), 0);
        due(what, x.replayed(0), want);
    }

    private static void operators() {
        leaves("PUSH", 13, 0, 0, PUSH, 13);
        leaves("INPUT", 11, 11, 3, INPUT, 0);
        leaves("CALLER", 3, 11, 3, CALLER, 0);
        leaves("DUP 0", 2, 0, 0, PUSH, 1, PUSH, 2, DUP, 0);
        leaves("DUP 1", 1, 0, 0, PUSH, 1, PUSH, 2, DUP, 1);
        leaves("SWAP 0", 2, 0, 0, PUSH, 1, PUSH, 2, PUSH, 3, SWAP, 0);
        leaves("SWAP 1", 1, 0, 0, PUSH, 1, PUSH, 2, PUSH, 3, SWAP, 1);
        leaves("SWAP 1, below", 3, 0, 0, PUSH, 1, PUSH, 2, PUSH, 3, SWAP, 1, POP, 0, POP, 0);
        leaves("POP", 1, 0, 0, PUSH, 1, PUSH, 2, POP, 0);
        leaves("ADD", 3, 0, 0, PUSH, 12, PUSH, 7, ADD, 0);
        leaves("SUB", 5, 0, 0, PUSH, 12, PUSH, 7, SUB, 0);
        leaves("SUB below 0", 11, 0, 0, PUSH, 7, PUSH, 12, SUB, 0);
        leaves("MUL", 4, 0, 0, PUSH, 12, PUSH, 7, MUL, 0);
        leaves("AND", 4, 0, 0, PUSH, 12, PUSH, 7, AND, 0);
        leaves("XOR", 11, 0, 0, PUSH, 12, PUSH, 7, XOR, 0);
        leaves("LESS", 0, 0, 0, PUSH, 12, PUSH, 7, LESS, 0);
        leaves("LESS, less", 1, 0, 0, PUSH, 7, PUSH, 12, LESS, 0);
        leaves("LESS, equal", 0, 0, 0, PUSH, 7, PUSH, 7, LESS, 0);
        leaves("EQUAL", 1, 0, 0, PUSH, 7, PUSH, 7, EQUAL, 0);
        leaves("EQUAL, not", 0, 0, 0, PUSH, 12, PUSH, 7, EQUAL, 0);
        leaves("ZERO", 1, 0, 0, PUSH, 0, ZERO, 0);
        leaves("ZERO, not", 0, 0, 0, PUSH, 2, ZERO, 0);
        leaves("LOAD mod 4", 9, 0, 0, PUSH, 9, PUSH, 14, STORE, 0, PUSH, 6, LOAD, 0);
        leaves("BALANCE", 6, 0, 0, BALANCE, 0);
        leaves("SEND all", 1, 0, 0, PUSH, 6, SEND, 0);
        leaves("SEND all: balance", 0, 0, 0, PUSH, 6, SEND, 0, POP, 0, BALANCE, 0);
        leaves("SEND too much", 0, 0, 0, PUSH, 7, SEND, 0);
        leaves("SEND too much: balance", 6, 0, 0, PUSH, 7, SEND, 0, POP, 0, BALANCE, 0);
        leaves("ASSERT", 4, 0, 0, PUSH, 4, PUSH, 2, ASSERT, 0);
        ContractProbe x = with(PUSH, 1, PUSH, 2, PUSH, 3, STORE, 15, STOP, 0, REVERT, 0);
        due("STORE takes two", x.replay(1, 0), 0);
        due("STORE: the rest", x.replayed(6), 1);
        due("STORE: cell x", x.replayed(3), 2);
        due("STOP is done", x.replayed(5), 17);
    }

    private static void faults(String what, int words, int... code) {
        ContractProbe x = with(code);
        due(what + " faults", x.replay(1, 0), 2);
        due(what + ": words", x.replayed(6), words);
        due(what + ": gas", x.replayed(5), 24 - words);
    }

    private static void stackFaults() {
        int[] takesOne = {POP, ZERO, LOAD, JUMP, SEND, ASSERT};
        for (int op : takesOne) {
            faults("operator " + op, 0, op, 0, MARK, 0);
        }
        int[] takesTwo = {ADD, SUB, MUL, AND, XOR, LESS, EQUAL, STORE, BRANCH};
        for (int op : takesTwo) {
            faults("operator " + op, 0, op, 0, MARK, 0);
            faults("operator " + op, 1, PUSH, 0, op, 0, MARK, 0);
        }
        faults("DUP 0", 0, DUP, 0);
        faults("DUP 1", 1, PUSH, 1, DUP, 1);
        faults("SWAP 0", 1, PUSH, 1, SWAP, 0);
        faults("SWAP 1", 2, PUSH, 1, PUSH, 1, SWAP, 1);
        faults("SWAP 15", 2, PUSH, 1, PUSH, 1, SWAP, 15);
        int[] putsOne = {PUSH, INPUT, CALLER, DUP, BALANCE};
        for (int op : putsOne) {
            faults("a seventh word by " + op, 6, PUSH, 1, PUSH, 1, PUSH, 1, PUSH, 1, PUSH, 1, PUSH, 1, op, 0);
        }
        ContractProbe full = with(PUSH, 1, PUSH, 1, PUSH, 1, PUSH, 1, PUSH, 1, INPUT, 0, LOAD, 0, SEND, 0, DUP, 5);
        due("six words and what takes one and puts one", full.replay(1, 0), 2);
        due("six words: the DUP faults", full.replayed(5), 24 - 6 - 1 - 5);
        ContractProbe deep = with(PUSH, 7, PUSH, 1, PUSH, 1, PUSH, 1, PUSH, 1, DUP, 4, PUSH, 0);
        deep.add(STORE, 0);
        due("DUP 4 of five, then a seventh", deep.replay(1, 0), 2);
        due("DUP 4 of five: words", deep.replayed(6), 6);
    }

    private static void costs(String what, int cost, int... code) {
        ContractProbe x = with(code);
        x.start(15, 40);
        x.replay(1, 0);
        int all = 40 - x.replayed(5);
        due(what + " costs", all - (code.length / 2 - 1), cost);
        x.start(15, all);
        due(what + " with just enough", x.replay(1, 0) == 2 ? 1 : 0, 0);
        due(what + " leaves none", x.replayed(5), 0);
        if (all > 1) {
            x.start(15, all - 1);
            due(what + " with one less", x.replay(1, 0), 2);
            due(what + " leaves what was there", x.replayed(5), cost - 1);
        }
    }

    private static void gas() {
        int[] alone = {PUSH, INPUT, CALLER, MARK, BALANCE, STOP, REVERT, DESTROY};
        for (int op : alone) {
            costs("operator " + op, 1, op, 0);
        }
        int[] withTwo = {DUP, SWAP, POP, ADD, SUB, AND, XOR, LESS, EQUAL, ZERO, LOAD, BRANCH, ASSERT};
        for (int op : withTwo) {
            costs("operator " + op, 1, PUSH, 0, PUSH, 1, op, 0);
        }
        costs("MUL", 3, PUSH, 0, PUSH, 1, MUL, 0);
        costs("STORE", 3, PUSH, 0, PUSH, 1, STORE, 0);
        costs("SEND", 5, PUSH, 1, SEND, 0);
        ContractProbe jump = with(PUSH, 3, JUMP, 0, MARK, 3);
        jump.replay(1, 0);
        due("JUMP and the MARK it goes to", jump.replayed(5), 21);
        ContractProbe two = with(PUSH, 0, POP, 0);
        two.start(0, 2);
        due("each transaction has its own gas", two.replay(2, 0), 0);
    }

    private static void jumps() {
        ContractProbe x = with(INPUT, 0, JUMP, 0, MARK, 2, STOP, 0, MARK, 2, REVERT, 0, MARK, 15, DESTROY, 0);
        due("the first MARK", x.replay(1, 8), 0);
        due("MARK 15", x.replay(1, 60), 3);
        due("no MARK", x.replay(1, 0), 2);
        due("no MARK: words", x.replayed(6), 1);
        due("no MARK: gas", x.replayed(5), 23);
        ContractProbe b = with(INPUT, 0, CALLER, 0, BRANCH, 0, REVERT, 0, MARK, 1, STOP, 0);
        due("BRANCH goes on at 0", b.replay(1, 1), 1);
        due("BRANCH goes on at 0 without a MARK, too", b.replay(1, 2), 1);
        due("BRANCH goes", b.replay(1, 8 * 4 + 1), 0);
        due("BRANCH without a MARK", b.replay(1, 8 * 4 + 2), 2);
        due("BRANCH without a MARK: words", b.replayed(6), 2);
        ContractProbe back = with(MARK, 0, PUSH, 0, JUMP, 0);
        due("round and round", back.replay(1, 0), 2);
        due("round and round: gas", back.replayed(5), 0);
        ContractProbe number = with(PUSH, 2, JUMP, 0, PUSH, 2, REVERT, 0);
        due("only a MARK is a mark", number.replay(1, 0), 2);
    }

    private static void changesBehindTheBack() {
        ContractProbe x = with(INPUT, 0, PUSH, 1, STORE, 0, PUSH, 3, SEND, 0, ASSERT, 0);
        x.start(4, 40);
        x.explore(1);
        x.replay(1, 20);
        x.clear();
        x.add(REVERT, 0);
        x.start(9, 5);
        due("stays: inputs", x.inputs(0), 64);
        due("stays: step", x.step(0, 0, 5), 5);
        due("stays: end", x.end(0, 0), 0);
        due("stays: balance", x.left(0, 4), 17);
        due("stays: cell", x.left(0, 1), 0);
        due("stays: finding", x.finding(3, 2), -1);
        due("stays: replayed", x.replayed(1), 5);
        due("stays: replayed balance", x.replayed(4), 1);
        due("another replay", x.replay(2, 4095), 1);
        due("stays behind a replay", x.left(0, 4), 17);
        due("another exploration", x.explore(2), 1);
        due("another exploration: end", x.end(0, 1), 1);
        due("another exploration: balance", x.left(0, 4), 25);
        due("the replay stays behind an exploration", x.replayed(4), 9);
        due("the replay stays behind an exploration: gas", x.replayed(5), 4);
    }
}
