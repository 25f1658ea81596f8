/** Each sentence of 'Terms' on ends, findings, ways and paths that names a boundary case. */
public final class OutcomeEdgeTest extends Contracts {
    public static void main(String[] args) {
        test(OutcomeEdgeTest::fourEnds);
        test(OutcomeEdgeTest::nothingBehindAnEnd);
        test(OutcomeEdgeTest::revertLeavesNoChange);
        test(OutcomeEdgeTest::faultLeavesNoChange);
        test(OutcomeEdgeTest::secondRevertLeavesTheFirst);
        test(OutcomeEdgeTest::secondFaultLeavesTheFirst);
        test(OutcomeEdgeTest::destroyKeepsItsChanges);
        test(OutcomeEdgeTest::nothingBehindDestroy);
        test(OutcomeEdgeTest::somethingBehindTheOthers);
        test(OutcomeEdgeTest::assertFindings);
        test(OutcomeEdgeTest::overflowOfSums);
        test(OutcomeEdgeTest::overflowOfProducts);
        test(OutcomeEdgeTest::overflowOfDifferences);
        test(OutcomeEdgeTest::overflowOfNoOther);
        test(OutcomeEdgeTest::openFindings);
        test(OutcomeEdgeTest::lateFindings);
        test(OutcomeEdgeTest::lateBehindRefusedSend);
        test(OutcomeEdgeTest::lateBehindSendOfZero);
        test(OutcomeEdgeTest::lateBehindOtherTransaction);
        test(OutcomeEdgeTest::lateBehindFaultySend);
        test(OutcomeEdgeTest::otherFaults);
        test(OutcomeEdgeTest::revertIsNoFault);
        test(OutcomeEdgeTest::noOtherFindingOutOfGas);
        test(OutcomeEdgeTest::noOtherFindingWithoutWords);
        test(OutcomeEdgeTest::findingsOfUndoneTransactions);
        test(OutcomeEdgeTest::waysOfTheSameInstructions);
        test(OutcomeEdgeTest::wayWithItsFault);
        test(OutcomeEdgeTest::waysOfEachTransaction);
        test(OutcomeEdgeTest::wayIsNotTheWords);
        test(OutcomeEdgeTest::pathsByWitness);
        test(OutcomeEdgeTest::pathsMetInAnotherOrder);
        test(OutcomeEdgeTest::fortyPaths);
        test(OutcomeEdgeTest::fortyOnePaths);
        test(OutcomeEdgeTest::explorationStays);
        test(OutcomeEdgeTest::replayStays);
        Check.finish();
    }

    private static void fourEnds() {
        sentence("a transaction ends when it stops (0), reverts (1), faults (2) or destroys (3)");
        ContractProbe x = with(INPUT, 0, JUMP, 0, MARK, 0, STOP, 0, MARK, 1, REVERT, 0, MARK, 3, DESTROY, 0);
        due("paths", x.explore(1), 4);
        int[] ends = {0, 1, 2, 3};
        for (int path = 0; path < 4; path++) {
            due("end of path " + path, x.end(path, 0), ends[path]);
            due("replay of its witness", x.replay(1, x.witness(path)), ends[path]);
        }
    }

    private static void nothingBehindAnEnd() {
        sentence("behind its end a transaction does nothing more");
        int[] ending = {STOP, REVERT, ASSERT, DESTROY};
        for (int op : ending) {
            ContractProbe x = with(PUSH, 0, op, 0, PUSH, 1, SEND, 0);
            x.start(9, 24);
            x.explore(1);
            due("the instruction that ends", x.step(0, 0, 1), 1);
            due("none behind it", x.step(0, 0, 2), -1);
            due("the balance", x.left(0, 4), 16 + 9);
        }
    }

    /** Stores 5 in cell 1 and sends 4, for 13 gas with one word left, and then ends as the operator does. */
    private static ContractProbe changeAndEnd(int op) {
        ContractProbe x = with(PUSH, 5, PUSH, 1, STORE, 0, PUSH, 4, SEND, 0, MARK, 0, MARK, 0, op, 15);
        x.start(9, 20);
        return x;
    }

    private static void revertLeavesNoChange() {
        sentence("if it reverts, cells and balance are as they were before it");
        comesTo(changeAndEnd(REVERT), 1, 0, 1, 0, 0, 0, 0, 9, 6, 1);
        ContractProbe x = changeAndEnd(REVERT);
        x.explore(1);
        due("cell", x.left(0, 1), 16);
        due("balance", x.left(0, 4), 16 + 9);
    }

    private static void faultLeavesNoChange() {
        sentence("if it faults, cells and balance are as they were before it");
        comesTo(changeAndEnd(DUP), 1, 0, 2, 0, 0, 0, 0, 9, 7, 1);
        ContractProbe x = changeAndEnd(DUP);
        x.explore(1);
        due("cell", x.left(0, 1), 16);
        due("balance", x.left(0, 4), 16 + 9);
        ContractProbe poor = changeAndEnd(MARK);
        poor.start(9, 13);
        comesTo(poor, 1, 0, 2, 0, 0, 0, 0, 9, 0, 1);
    }

    /** Stores the caller in cell 2, sends 3, and stops if the input is not 0; else the operator is done. */
    private static ContractProbe stopOr(int op) {
        ContractProbe x = with(CALLER, 0, PUSH, 2, STORE, 0, PUSH, 3, SEND, 0, POP, 0, INPUT, 0, PUSH, 1, BRANCH, 0);
        append(x, op, 0, MARK, 1);
        x.start(10, 24);
        return x;
    }

    private static void secondRevertLeavesTheFirst() {
        sentence("if the second one reverts, they are as the first one left them");
        comesTo(stopOr(REVERT), 2, 64 * 7 + 2, 1, 0, 0, 3, 0, 7, 8, 0);
        comesTo(stopOr(REVERT), 2, 64 * 2 + 7, 0, 0, 0, 3, 0, 7, 8, 0);
        comesTo(stopOr(REVERT), 2, 64 * 2 + 2, 1, 0, 0, 0, 0, 10, 8, 0);
    }

    private static void secondFaultLeavesTheFirst() {
        sentence("if the second one faults, they are as the first one left them");
        comesTo(stopOr(POP), 2, 64 * 7 + 2, 2, 0, 0, 3, 0, 7, 9, 0);
        comesTo(stopOr(POP), 2, 64 * 2 + 7, 0, 0, 0, 3, 0, 7, 8, 0);
        ContractProbe x = stopOr(POP);
        due("paths", x.explore(2), 4);
        due("a fault behind a stop: balance", x.left(2, 4), 16 + 7);
        due("a fault behind a fault: balance", x.left(0, 4), 16 + 10);
        due("a fault behind a fault: cell", x.left(0, 2), 16);
    }

    private static void destroyKeepsItsChanges() {
        sentence("only what reverts or faults leaves no change: DESTROY does");
        comesTo(changeAndEnd(DESTROY), 1, 0, 3, 0, 5, 0, 0, 5, 6, 1);
    }

    private static void nothingBehindDestroy() {
        sentence("behind one that destroys a second one does nothing at all, and ends so, too (4)");
        ContractProbe x = changeAndEnd(DESTROY);
        comesTo(x, 2, 0, 4, 0, 5, 0, 0, 5, 0, 0);
        comesTo(x, 2, 4095, 4, 0, 5, 0, 0, 5, 0, 0);
        due("one path", x.explore(2), 1);
        due("for all", x.inputs(0), 4096);
        due("the first destroys", x.end(0, 0), 3);
        due("the second does nothing", x.end(0, 1), 4);
        due("not an instruction", x.step(0, 1, 0), -1);
        due("nothing sent again", x.left(0, 4), 16 + 5);
        due("findings of the first alone", x.risk(0, 2, 7), 3072);
    }

    private static void somethingBehindTheOthers() {
        sentence("behind one that stops, reverts or faults a second one is done");
        int[][] wanted = {{STOP, 0, 1}, {REVERT, 1, 9}, {DUP, 2, 9}};
        for (int[] want : wanted) {
            ContractProbe x = changeAndEnd(want[0]);
            x.explore(2);
            due("end behind " + want[0], x.end(0, 1), want[1]);
            due("balance behind " + want[0], x.left(0, 4), 16 + want[2]);
            due("instruction behind " + want[0], x.step(0, 1, 7), 7);
        }
    }

    /** The only kind that a contract's instruction has a finding of, or none (-1), and the least input number. */
    private static void onlyKind(String what, ContractProbe x, int i, int kind, int least) {
        for (int k = 0; k < 5; k++) {
            due(what + ": kind " + k + " at " + i, x.finding(k, i), k == kind ? least : -1);
        }
    }

    private static void assertFindings() {
        sentence("kind 0: ASSERT faults there because it takes 0");
        ContractProbe x = with(INPUT, 0, ASSERT, 0);
        x.explore(1);
        onlyKind("ASSERT", x, 1, 0, 0);
        due("of input 0 alone", x.risk(0, 0, 1), 4);
        due("of no other", x.risk(1, 0, 1), 0);
    }

    private static void overflowOfSums() {
        sentence("kind 1: ADD of words whose sum is above 15");
        ContractProbe x = with(INPUT, 0, PUSH, 5, ADD, 0);
        x.explore(1);
        onlyKind("10 + 5 is not, 11 + 5 is", x, 2, 1, 4 * 11);
        due("11 to 15", x.risk(0, 1, 2), 20);
    }

    private static void overflowOfProducts() {
        sentence("kind 1: MUL of words whose product is above 15");
        ContractProbe fives = with(INPUT, 0, PUSH, 5, MUL, 0);
        fives.explore(1);
        onlyKind("3 * 5 is not, 4 * 5 is", fives, 2, 1, 4 * 4);
        ContractProbe eights = with(INPUT, 0, PUSH, 8, MUL, 0);
        eights.explore(1);
        onlyKind("1 * 8 is not, 2 * 8 is", eights, 2, 1, 4 * 2);
        due("2 to 15", eights.risk(0, 1, 2), 56);
    }

    private static void overflowOfDifferences() {
        sentence("kind 1: SUB with x above y");
        ContractProbe x = with(PUSH, 5, INPUT, 0, SUB, 0);
        x.explore(1);
        onlyKind("5 - 5 is not, 5 - 6 is", x, 2, 1, 4 * 6);
        due("6 to 15", x.risk(0, 1, 2), 40);
    }

    private static void overflowOfNoOther() {
        sentence("kind 1: of no other instruction");
        int[] others = {AND, XOR, LESS, EQUAL, STORE, SWAP, DUP, POP, ZERO, LOAD, SEND};
        for (int op : others) {
            ContractProbe x = with(PUSH, 14, PUSH, 15, op, 0);
            x.explore(1);
            onlyKind("operator " + op, x, 2, -1, 0);
        }
    }

    private static void openFindings() {
        sentence("kind 2: DESTROY, the caller is not 0");
        ContractProbe x = with(DESTROY, 0);
        x.explore(1);
        onlyKind("DESTROY", x, 0, 2, 1);
        due("callers 1, 2, 3", x.risk(0, 2, 0), 48);
        ContractProbe own = with(CALLER, 0, ZERO, 0, ASSERT, 0, DESTROY, 0);
        own.explore(1);
        onlyKind("DESTROY by caller 0 alone", own, 3, -1, 0);
    }

    private static void lateFindings() {
        sentence("kind 3: STORE, after a SEND that put 1");
        ContractProbe x = with(PUSH, 0, PUSH, 0, STORE, 0, PUSH, 3, SEND, 0, PUSH, 1, STORE, 0);
        x.start(3, 24);
        x.explore(1);
        onlyKind("STORE before it", x, 2, -1, 0);
        onlyKind("STORE after it", x, 6, 3, 0);
        ContractProbe more = with(PUSH, 3, SEND, 0, PUSH, 4, SEND, 0, STORE, 0);
        more.start(3, 24);
        more.explore(1);
        onlyKind("STORE after one that put 1 and one that put 0", more, 4, 3, 0);
    }

    private static void lateBehindRefusedSend() {
        sentence("kind 3: not after a SEND that put 0");
        ContractProbe x = with(INPUT, 0, SEND, 0, PUSH, 1, STORE, 0);
        x.start(3, 24);
        x.explore(1);
        onlyKind("STORE", x, 3, 3, 0);
        due("0 to 3 were sent", x.risk(0, 3, 3), 16);
    }

    private static void lateBehindSendOfZero() {
        sentence("kind 3: a SEND of 0 puts 1, with a balance of 0, too");
        ContractProbe x = with(PUSH, 0, SEND, 0, PUSH, 1, STORE, 0);
        x.explore(1);
        onlyKind("STORE", x, 3, 3, 0);
    }

    private static void lateBehindOtherTransaction() {
        sentence("kind 3: not after a SEND of the other transaction");
        ContractProbe x = with(PUSH, 0, PUSH, 0, STORE, 0, PUSH, 1, SEND, 0);
        x.start(3, 24);
        x.explore(2);
        onlyKind("STORE", x, 2, -1, 0);
        due("both have sent", x.left(0, 4), 16 + 1);
    }

    private static void lateBehindFaultySend() {
        sentence("kind 3: a SEND that faults puts nothing, and nothing comes behind it");
        ContractProbe x = with(SEND, 0, PUSH, 0, PUSH, 0, STORE, 0);
        x.explore(2);
        onlyKind("SEND", x, 0, 4, 0);
        onlyKind("STORE", x, 3, -1, 0);
    }

    private static void otherFaults() {
        sentence("kind 4: any other fault");
        int[][] faulty = {{POP, 0}, {PUSH, 0, ADD, 0}, {DUP, 0}, {PUSH, 1, DUP, 1}, {PUSH, 1, SWAP, 0}, {PUSH, 9, JUMP, 0},
            {PUSH, 1, PUSH, 9, BRANCH, 0}, {PUSH, 1, PUSH, 1, PUSH, 1, PUSH, 1, PUSH, 1, PUSH, 1, PUSH, 1}, {ASSERT, 0}};
        for (int[] code : faulty) {
            ContractProbe x = with(code);
            x.explore(1);
            int last = code.length / 2 - 1;
            onlyKind("operator " + code[2 * last] + " at the end", x, last, 4, 0);
            due("for all", x.risk(0, 4, last), 64);
            for (int i = 0; i < last; i++) {
                onlyKind("one before it", x, i, -1, 0);
            }
        }
    }

    private static void revertIsNoFault() {
        sentence("kind 4: REVERT is no fault");
        ContractProbe x = with(REVERT, 0);
        x.explore(2);
        onlyKind("REVERT", x, 0, -1, 0);
        due("risk", x.risk(0, 4, 0), 0);
    }

    private static void noOtherFindingOutOfGas() {
        sentence("in 0 to 3 the instruction is not out of gas");
        int[][] code = {{PUSH, 0, ASSERT, 0}, {PUSH, 9, PUSH, 9, ADD, 0}, {PUSH, 9, PUSH, 9, MUL, 0}, {PUSH, 0, PUSH, 9, SUB, 0},
            {MARK, 0, DESTROY, 0}, {PUSH, 1, PUSH, 0, SEND, 0, STORE, 0}};
        int[] gas = {1, 2, 4, 2, 1, 9};
        int[] kinds = {0, 1, 1, 1, 2, 3};
        int[] numbers = {0, 0, 0, 0, 1, 0};
        for (int c = 0; c < code.length; c++) {
            ContractProbe x = with(code[c]);
            int last = code[c].length / 2 - 1;
            x.start(0, gas[c]);
            x.explore(1);
            onlyKind("out of gas", x, last, 4, 0);
            x.start(0, gas[c] + 1);
            x.explore(1);
            onlyKind("with 1 gas more", x, last, kinds[c], numbers[c]);
        }
    }

    private static void noOtherFindingWithoutWords() {
        sentence("in 0 to 3 the instruction has enough words on the stack");
        int[][] code = {{ASSERT, 0}, {PUSH, 15, ADD, 0}, {PUSH, 15, MUL, 0}, {PUSH, 15, SUB, 0}, {PUSH, 0, SEND, 0, STORE, 0}};
        for (int[] c : code) {
            ContractProbe x = with(c);
            x.explore(1);
            onlyKind("a word too few", x, c.length / 2 - 1, 4, 0);
        }
    }

    private static void findingsOfUndoneTransactions() {
        sentence("a finding is one though its transaction reverts or faults");
        int[] ending = {REVERT, POP};
        for (int op : ending) {
            ContractProbe x = with(PUSH, 0, SEND, 0, PUSH, 1, STORE, 0, PUSH, 0, PUSH, 1, SUB, 0, POP, 0, op, 0);
            x.explore(1);
            onlyKind("STORE", x, 3, 3, 0);
            onlyKind("SUB", x, 6, 1, 0);
        }
    }

    private static void waysOfTheSameInstructions() {
        sentence("the way: .. and how each transaction ends");
        ContractProbe x = with(INPUT, 0, ASSERT, 0);
        due("the same instructions, two ends", x.explore(1), 2);
        due("which faults", x.end(0, 0), 2);
        due("which stops", x.end(1, 0), 0);
        due("both of two", x.explore(2), 4);
    }

    private static void wayWithItsFault() {
        sentence("the way: .. one that faults among them");
        ContractProbe x = with(INPUT, 0, PUSH, 1, BRANCH, 0, ADD, 0, MARK, 1, SUB, 0);
        due("two that fault", x.explore(1), 2);
        due("the first's last one", x.step(0, 0, 3), 3);
        due("the second's last one", x.step(1, 0, 4), 5);
        due("not more", x.step(1, 0, 5), -1);
    }

    private static void waysOfEachTransaction() {
        sentence("the way: .. those of each transaction by themselves");
        ContractProbe x = with(MARK, 0, PUSH, 0, LOAD, 0, ZERO, 0, PUSH, 1, PUSH, 0, STORE, 0, INPUT, 0, AND, 0);
        append(x, PUSH, 0, BRANCH, 0, REVERT, 0);
        x.start(0, 40);
        due("a round or two", x.explore(1), 2);
        due("one and two rounds are not two and one", x.explore(2), 4);
        int[] witnesses = {0, 4, 256, 260};
        for (int path = 0; path < 4; path++) {
            due("witness", x.witness(path), witnesses[path]);
            due("inputs", x.inputs(path), 1024);
        }
    }

    private static void wayIsNotTheWords() {
        sentence("the way: the instructions that are done, not the words");
        ContractProbe x = with(INPUT, 0, DUP, 0, PUSH, 1, STORE, 0, PUSH, 2, BRANCH, 0, MARK, 2);
        due("a BRANCH to the next one", x.explore(1), 1);
        due("of all", x.inputs(0), 64);
    }

    private static void pathsByWitness() {
        sentence("paths are numbered 0, 1, .. by the least input number that goes that way");
        ContractProbe x = with(INPUT, 0, PUSH, 0, STORE, 0, CALLER, 0, PUSH, 1, BRANCH, 0, REVERT, 0, MARK, 1);
        append(x, INPUT, 0, PUSH, 2, BRANCH, 0, DESTROY, 0, MARK, 2);
        due("one: REVERT, DESTROY, STOP", x.explore(1), 3);
        int[] ofOne = {0, 1, 5};
        for (int path = 0; path < 3; path++) {
            due("witness of one", x.witness(path), ofOne[path]);
        }
        due("two", x.explore(2), 7);
        int[] ofTwo = {0, 1, 5, 64, 320, 321, 325};
        for (int path = 0; path < 7; path++) {
            due("witness of two", x.witness(path), ofTwo[path]);
        }
    }

    private static void pathsMetInAnotherOrder() {
        sentence("paths are numbered by the least input number, though what they leave is the same");
        ContractProbe x = with(CALLER, 0, JUMP, 0, MARK, 0, STOP, 0, MARK, 1, PUSH, 1, DUP, 0, STORE, 0, STOP, 0);
        append(x, MARK, 2, REVERT, 0);
        due("paths", x.explore(2), 16);
        for (int path = 0; path < 16; path++) {
            due("witness", x.witness(path), 64 * (path / 4) + path % 4);
            due("inputs", x.inputs(path), 256);
            due("cell", x.left(path, 1), 16 + (path / 4 == 1 || path % 4 == 1 ? 1 : 0));
        }
    }

    private static void fortyPaths() {
        sentence("there may be at most 40: there are 40");
        due("12 that destroy, 2 others: 12 + 2 * 14 paths", jumpTable(12, 1).explore(2), 40);
        ContractProbe x = new ContractProbe();
        x.start(0, 40);
        appendFortyWays(x);
        due("40 of one", x.explore(1), 40);
        due("the last one", x.witness(39), 39);
        due("none behind it", x.witness(40), -1);
    }

    private static void fortyOnePaths() {
        sentence("there may be at most 40: there would be 41");
        due("8 that destroy, 3 others: 8 + 3 * 11 paths", jumpTable(8, 2).explore(2), -2);
        ContractProbe x = with(INPUT, 0, PUSH, 15, EQUAL, 0, ZERO, 0, ASSERT, 0);
        x.start(0, 40);
        appendFortyWays(x);
        due("41 of one", x.explore(1), -2);
    }

    private static void explorationStays() {
        sentence("code, balance and limit may be changed at any time; the exploration stays as it is");
        ContractProbe x = changeAndEnd(DESTROY);
        x.explore(2);
        x.clear();
        x.add(REVERT, 0);
        x.start(1, 1);
        x.replay(1, 0);
        due("inputs", x.inputs(0), 4096);
        due("witness", x.witness(0), 0);
        due("end", x.end(0, 0), 3);
        due("step", x.step(0, 0, 7), 7);
        due("cell", x.left(0, 1), 16 + 5);
        due("balance", x.left(0, 4), 16 + 5);
        due("finding", x.finding(2, 7), 64);
        due("risk", x.risk(0, 2, 7), 3072);
    }

    private static void replayStays() {
        sentence("code, balance and limit may be changed at any time; the replay stays as it is");
        ContractProbe x = changeAndEnd(DESTROY);
        x.replay(1, 0);
        x.clear();
        x.add(REVERT, 0);
        x.start(1, 1);
        x.explore(2);
        int[] left = {0, 5, 0, 0, 5, 6, 1};
        for (int i = 0; i < 7; i++) {
            due("replayed(" + i + ")", x.replayed(i), left[i]);
        }
    }
}
