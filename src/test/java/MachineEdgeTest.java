/** Each sentence of 'Terms' on words, the contract, gas, the stack and the operators that names a boundary case. */
public final class MachineEdgeTest extends Contracts {
    private static final int[] ALL_TAKES = {0, 0, 0, 0, 0, 1, 2, 2, 2, 2, 2, 2, 2, 1, 1, 2, 0, 1, 2, 1, 0, 1, 0, 0, 0};

    public static void main(String[] args) {
        test(MachineEdgeTest::sums);
        test(MachineEdgeTest::differences);
        test(MachineEdgeTest::products);
        test(MachineEdgeTest::inputNumbersOfOne);
        test(MachineEdgeTest::inputNumbersOfTwo);
        test(MachineEdgeTest::cellsAtFirst);
        test(MachineEdgeTest::fullCode);
        test(MachineEdgeTest::firstInstruction);
        test(MachineEdgeTest::emptyStack);
        test(MachineEdgeTest::gasAtFirst);
        test(MachineEdgeTest::behindTheLastOne);
        test(MachineEdgeTest::noInstructions);
        test(MachineEdgeTest::costs);
        test(MachineEdgeTest::outOfGas);
        test(MachineEdgeTest::loops);
        test(MachineEdgeTest::tooFewWords);
        test(MachineEdgeTest::seventhWord);
        test(MachineEdgeTest::fullStack);
        test(MachineEdgeTest::dup);
        test(MachineEdgeTest::dupOfNone);
        test(MachineEdgeTest::swap);
        test(MachineEdgeTest::swapWithNone);
        test(MachineEdgeTest::less);
        test(MachineEdgeTest::equal);
        test(MachineEdgeTest::zero);
        test(MachineEdgeTest::andXor);
        test(MachineEdgeTest::load);
        test(MachineEdgeTest::store);
        test(MachineEdgeTest::mark);
        test(MachineEdgeTest::jump);
        test(MachineEdgeTest::jumpToNone);
        test(MachineEdgeTest::jumpToRefused);
        test(MachineEdgeTest::branch);
        test(MachineEdgeTest::branchToNone);
        test(MachineEdgeTest::branchOnZero);
        test(MachineEdgeTest::sendPaid);
        test(MachineEdgeTest::sendRefused);
        test(MachineEdgeTest::sendTwice);
        test(MachineEdgeTest::assertion);
        Check.finish();
    }

    /** Code that puts one word, which is then seen in cell 0. */
    private static void puts(int want, int... code) {
        ContractProbe x = with(code);
        append(x, PUSH, 0, STORE, 0);
        x.start(0, 40);
        due("it puts a word", x.replay(1, 0), 0);
        due("which is", x.replayed(0), want);
        due("and no more than a word", x.replayed(1) + x.replayed(2) + x.replayed(3) + x.replayed(4), 0);
    }

    /** Code in which instruction i faults, or does not, for every input. */
    private static void faultsAt(String what, int i, boolean isFault, ContractProbe x) {
        x.explore(1);
        due(what + ": fault at " + i, x.finding(4, i), isFault ? 0 : -1);
    }

    private static ContractProbe ones(int count) {
        ContractProbe x = new ContractProbe();
        for (int i = 0; i < count; i++) {
            x.add(PUSH, 1);
        }
        return x;
    }

    private static void sums() {
        sentence("sums are modulo 16");
        puts(15, PUSH, 7, PUSH, 8, ADD, 0);
        puts(0, PUSH, 15, PUSH, 1, ADD, 0);
        puts(14, PUSH, 15, PUSH, 15, ADD, 0);
    }

    private static void differences() {
        sentence("differences are modulo 16");
        puts(0, PUSH, 15, PUSH, 15, SUB, 0);
        puts(15, PUSH, 0, PUSH, 1, SUB, 0);
        puts(1, PUSH, 0, PUSH, 15, SUB, 0);
        puts(15, PUSH, 15, PUSH, 0, SUB, 0);
    }

    private static void products() {
        sentence("products are modulo 16");
        puts(15, PUSH, 3, PUSH, 5, MUL, 0);
        puts(0, PUSH, 4, PUSH, 4, MUL, 0);
        puts(1, PUSH, 15, PUSH, 15, MUL, 0);
        puts(0, PUSH, 15, PUSH, 0, MUL, 0);
    }

    private static void inputNumbersOfOne() {
        sentence("an input number of one transaction is 4 * input + caller (0 .. 63)");
        ContractProbe one = with(INPUT, 0, PUSH, 0, STORE, 0, CALLER, 0, PUSH, 1, STORE, 0);
        comesTo(one, 1, 0, 0, 0, 0);
        comesTo(one, 1, 3, 0, 0, 3);
        comesTo(one, 1, 4, 0, 1, 0);
        comesTo(one, 1, 60, 0, 15, 0);
        comesTo(one, 1, 63, 0, 15, 3);
    }

    private static void inputNumbersOfTwo() {
        sentence("of two it is 64 times that of the first one plus that of the second one (0 .. 4095)");
        ContractProbe two = with(PUSH, 0, LOAD, 0, PUSH, 2, STORE, 0, PUSH, 1, LOAD, 0, PUSH, 3, STORE, 0);
        append(two, INPUT, 0, PUSH, 0, STORE, 0, CALLER, 0, PUSH, 1, STORE, 0);
        comesTo(two, 2, 0, 0, 0, 0, 0, 0);
        comesTo(two, 2, 63, 0, 15, 3, 0, 0);
        comesTo(two, 2, 64, 0, 0, 0, 0, 1);
        comesTo(two, 2, 64 * 22 + 41, 0, 10, 1, 5, 2);
        comesTo(two, 2, 4032, 0, 0, 0, 15, 3);
        comesTo(two, 2, 4095, 0, 15, 3, 15, 3);
    }

    private static void cellsAtFirst() {
        sentence("four cells 0 .. 3, at first 0");
        ContractProbe used = with(INPUT, 0, LOAD, 0, ZERO, 0, ASSERT, 0, PUSH, 7, INPUT, 0, STORE, 0);
        for (int cell = 0; cell < 4; cell++) {
            int[] left = {0, 0, 0, 0, 0};
            left[cell] = 7;
            comesTo(used, 1, 4 * cell, 0, left);
            comesTo(used, 1, 4 * cell, 0, left);
        }
        due("an exploration, too", used.explore(1), 1);
        due("a second one, too", used.explore(1), 1);
    }

    private static void fullCode() {
        sentence("at most 32 instructions 0, 1, ..");
        ContractProbe full = new ContractProbe();
        full.start(0, 40);
        for (int i = 0; i < 31; i++) {
            full.add(MARK, 0);
        }
        comesTo(full, 1, 0, 0, 0, 0, 0, 0, 0, 9, 0);
        full.add(PUSH, 0);
        comesTo(full, 1, 0, 0, 0, 0, 0, 0, 0, 8, 1);
        full.add(PUSH, 0);
        comesTo(full, 1, 0, 0, 0, 0, 0, 0, 0, 8, 1);
        full.explore(1);
        due("instruction 31", full.step(0, 0, 31), 31);
        due("instruction 32", full.step(0, 0, 32), -1);
    }

    private static void firstInstruction() {
        sentence("a transaction begins with instruction 0");
        ContractProbe middle = with(MARK, 0, STOP, 0, REVERT, 0);
        middle.explore(2);
        due("the second one does instruction 0", middle.step(0, 1, 0), 0);
        due("and ends at 1, too", middle.step(0, 1, 1), 1);
    }

    private static void emptyStack() {
        sentence("a transaction begins with an empty stack");
        ContractProbe four = ones(4);
        comesTo(four, 2, 0, 0, 0, 0, 0, 0, 0, 20, 4);
        comesTo(four, 1, 0, 0, 0, 0, 0, 0, 0, 20, 4);
    }

    private static void gasAtFirst() {
        sentence("a transaction begins with so much gas as limit says");
        ContractProbe poor = with(PUSH, 1, POP, 0);
        poor.start(0, 2);
        comesTo(poor, 2, 0, 0, 0, 0, 0, 0, 0, 0, 0);
    }

    private static void behindTheLastOne() {
        sentence("behind the last one the transaction stops");
        ContractProbe last = with(PUSH, 1);
        last.start(0, 1);
        comesTo(last, 1, 0, 0, 0, 0, 0, 0, 0, 0, 1);
        due("a JUMP to the last one", with(PUSH, 9, JUMP, 0, REVERT, 0, MARK, 9).replay(1, 0), 0);
        due("a BRANCH that goes on", with(PUSH, 0, PUSH, 0, BRANCH, 0).replay(1, 0), 0);
        due("40 gas, all used up", sixRounds(3).replay(1, 0), 0);
        due("40 gas, one instruction more", sixRounds(4).replay(1, 0), 2);
    }

    private static void noInstructions() {
        sentence("without instructions a transaction stops");
        ContractProbe none = new ContractProbe();
        comesTo(none, 1, 63, 0, 0, 0, 0, 0, 0, 24, 0);
        comesTo(none, 2, 4095, 0, 0, 0, 0, 0, 0, 24, 0);
        due("one path", none.explore(2), 1);
        due("the first stops", none.end(0, 0), 0);
        due("the second stops", none.end(0, 1), 0);
        due("no instruction is done", none.step(0, 0, 0), -1);
    }

    /** 37 instructions of 1 gas in six rounds, and some more. */
    private static ContractProbe sixRounds(int more) {
        ContractProbe x = with(PUSH, 6, MARK, 0, PUSH, 1, SUB, 0, DUP, 0, PUSH, 0, BRANCH, 0);
        for (int i = 0; i < more; i++) {
            x.add(MARK, 1);
        }
        x.start(0, 40);
        return x;
    }

    private static int costOf(int op) {
        return op == SEND ? 5 : op == MUL || op == STORE ? 3 : 1;
    }

    private static void costs() {
        sentence("an instruction costs 1 gas, MUL and STORE 3, SEND 5");
        for (int op = 0; op <= 24; op++) {
            ContractProbe x = with(PUSH, 0, PUSH, 1, op, 0, MARK, 1);
            x.start(15, 2 + costOf(op));
            faultsAt("operator " + op + " with its cost", 2, false, x);
            x.start(15, 40);
            x.replay(1, 0);
            int marks = op == STOP || op == REVERT || op == DESTROY ? 0 : 1;
            due("operator " + op + " takes its cost", x.replayed(5), 40 - 2 - costOf(op) - marks);
        }
    }

    private static void outOfGas() {
        sentence("if less gas than that is left, it faults (out of gas)");
        for (int op = 0; op <= 24; op++) {
            ContractProbe x = with(PUSH, 0, PUSH, 1, op, 0, MARK, 1);
            x.start(15, 1 + costOf(op));
            faultsAt("operator " + op + " with 1 gas less", 2, true, x);
            comesTo(x, 1, 0, 2, 0, 0, 0, 0, 15, costOf(op) - 1, 2);
        }
        ContractProbe one = with(MARK, 0, MARK, 0);
        one.start(0, 1);
        comesTo(one, 1, 0, 2, 0, 0, 0, 0, 0, 0, 0);
    }

    private static void loops() {
        sentence("gas ends every loop");
        ContractProbe round = with(MARK, 0, PUSH, 0, JUMP, 0);
        round.start(0, 40);
        due("40 instructions and one that faults", round.explore(2), 1);
        due("the last one that has gas", round.step(0, 0, 39), 0);
        due("the one that faults", round.step(0, 0, 40), 1);
        due("none behind it", round.step(0, 0, 41), -1);
        due("its second transaction", round.step(0, 1, 40), 1);
        due("it faults", round.end(0, 1), 2);
    }

    private static void tooFewWords() {
        sentence("it faults if it takes more words than the stack has");
        for (int words = 0; words <= 2; words++) {
            for (int op = 0; op <= 24; op++) {
                if (op == DUP || op == SWAP) {
                    continue;
                }
                ContractProbe x = ones(words);
                append(x, op, 0, MARK, 1);
                x.start(1, 24);
                faultsAt("operator " + op + " with " + words + " words", words, words < ALL_TAKES[op], x);
            }
        }
        comesTo(with(PUSH, 9, ADD, 0), 1, 0, 2, 0, 0, 0, 0, 0, 23, 1);
    }

    private static void seventhWord() {
        sentence("it faults if the stack would have more than 6");
        int[] putting = {PUSH, INPUT, CALLER, DUP, BALANCE};
        for (int op : putting) {
            ContractProbe sixth = ones(5);
            sixth.add(op, 0);
            comesTo(sixth, 1, 0, 0, 0, 0, 0, 0, 0, 18, 6);
            ContractProbe seventh = ones(6);
            seventh.add(op, 0);
            faultsAt("a seventh word by " + op, 6, true, seventh);
            comesTo(seventh, 1, 0, 2, 0, 0, 0, 0, 0, 18, 6);
        }
    }

    private static void fullStack() {
        sentence("with 6 words what takes as many as it puts does not fault");
        int[] others = {SWAP, POP, ADD, SUB, MUL, AND, XOR, LESS, EQUAL, ZERO, LOAD, STORE, MARK, JUMP, BRANCH, SEND, ASSERT};
        for (int op : others) {
            ContractProbe x = ones(6);
            append(x, op, 0, MARK, 1);
            faultsAt("operator " + op + " with 6 words", 6, false, x);
        }
    }

    private static void dup() {
        sentence("DUP puts the word that has a words above it");
        for (int a = 0; a < 5; a++) {
            ContractProbe x = with(PUSH, 1, PUSH, 2, PUSH, 3, PUSH, 4, PUSH, 5, DUP, a, SWAP, 0, POP, 0);
            append(x, PUSH, 0, STORE, 0);
            comesTo(x, 1, 0, 0, 5 - a);
        }
    }

    private static void dupOfNone() {
        sentence("DUP faults if there is none");
        for (int words = 0; words < 6; words++) {
            for (int a = 0; a <= 15; a++) {
                ContractProbe x = ones(words);
                x.add(DUP, a);
                faultsAt("DUP " + a + " of " + words, words, a >= words, x);
            }
        }
        comesTo(with(PUSH, 9, DUP, 1), 1, 0, 2, 0, 0, 0, 0, 0, 23, 1);
    }

    private static void swap() {
        sentence("SWAP: the topmost word and that which has a + 1 words above it change places");
        for (int a = 0; a < 4; a++) {
            ContractProbe x = with(PUSH, 1, PUSH, 2, PUSH, 3, PUSH, 4, PUSH, 5, SWAP, a, PUSH, 0, STORE, 0);
            for (int i = 0; i < a; i++) {
                x.add(POP, 0);
            }
            append(x, PUSH, 1, STORE, 0);
            comesTo(x, 1, 0, 0, 4 - a, 5, 0, 0, 0, 10 - a, 3 - a);
        }
    }

    private static void swapWithNone() {
        sentence("SWAP faults if there is none");
        for (int words = 0; words <= 6; words++) {
            for (int a = 0; a <= 15; a++) {
                ContractProbe x = ones(words);
                x.add(SWAP, a);
                faultsAt("SWAP " + a + " of " + words, words, a + 1 >= words, x);
            }
        }
        comesTo(with(PUSH, 9, PUSH, 9, SWAP, 1), 1, 0, 2, 0, 0, 0, 0, 0, 22, 2);
    }

    private static void less() {
        sentence("LESS: 1 if y is less than x, else 0");
        puts(1, PUSH, 14, PUSH, 15, LESS, 0);
        puts(0, PUSH, 15, PUSH, 15, LESS, 0);
        puts(0, PUSH, 15, PUSH, 14, LESS, 0);
        puts(1, PUSH, 0, PUSH, 15, LESS, 0);
    }

    private static void equal() {
        sentence("EQUAL: 1 if they are equal, else 0");
        puts(1, PUSH, 0, PUSH, 0, EQUAL, 0);
        puts(1, PUSH, 15, PUSH, 15, EQUAL, 0);
        puts(0, PUSH, 15, PUSH, 0, EQUAL, 0);
        puts(0, PUSH, 14, PUSH, 15, EQUAL, 0);
    }

    private static void zero() {
        sentence("ZERO puts 1 if it is 0, else 0");
        puts(1, PUSH, 0, ZERO, 0);
        puts(0, PUSH, 1, ZERO, 0);
        puts(0, PUSH, 15, ZERO, 0);
    }

    private static void andXor() {
        sentence("AND, XOR: bit by bit");
        puts(8, PUSH, 12, PUSH, 10, AND, 0);
        puts(0, PUSH, 15, PUSH, 0, AND, 0);
        puts(6, PUSH, 12, PUSH, 10, XOR, 0);
        puts(0, PUSH, 15, PUSH, 15, XOR, 0);
        puts(15, PUSH, 15, PUSH, 0, XOR, 0);
    }

    private static void load() {
        sentence("LOAD puts cell x mod 4");
        for (int x = 0; x <= 15; x++) {
            int[] left = {0, 0, 0, 0, 0, 13, 0};
            left[x % 4] = 9;
            left[(x + 1) % 4] = 9;
            comesTo(with(PUSH, 9, PUSH, x % 4, STORE, 0, PUSH, x, LOAD, 0, PUSH, (x + 1) % 4, STORE, 0), 1, 0, 0, left);
        }
    }

    private static void store() {
        sentence("STORE: cell x mod 4 becomes y");
        for (int x = 0; x <= 15; x++) {
            int[] cells = {0, 0, 0, 0, 5, 19, 0};
            cells[x % 4] = 15;
            ContractProbe store = with(PUSH, 15, PUSH, x, STORE, 0);
            store.start(5, 24);
            comesTo(store, 1, 0, 0, cells);
        }
        comesTo(with(PUSH, 15, PUSH, 1, STORE, 0, PUSH, 0, PUSH, 1, STORE, 0), 1, 0, 0, 0, 0, 0, 0, 0, 14, 0);
    }

    private static void mark() {
        sentence("MARK: nothing");
        ContractProbe mark = with(PUSH, 3, MARK, 15);
        mark.start(7, 9);
        comesTo(mark, 1, 63, 0, 0, 0, 0, 0, 7, 7, 1);
    }

    private static void jump() {
        sentence("JUMP goes to the first MARK with argument x");
        ContractProbe ahead = with(INPUT, 0, JUMP, 0, MARK, 0, STOP, 0, MARK, 0, MARK, 15, REVERT, 0, MARK, 15, STOP, 0);
        comesTo(ahead, 1, 0, 0, 0, 0, 0, 0, 0, 20, 0);
        comesTo(ahead, 1, 60, 1, 0, 0, 0, 0, 0, 20, 0);
        ContractProbe back = with(MARK, 5, PUSH, 5, JUMP, 0, MARK, 5, STOP, 0);
        back.explore(1);
        due("one behind it is not the first", back.step(0, 0, 3), 0);
    }

    private static void jumpToNone() {
        sentence("JUMP faults if there is none");
        ContractProbe none = with(INPUT, 0, JUMP, 0, PUSH, 1, MARK, 2);
        comesTo(none, 1, 4, 2, 0, 0, 0, 0, 0, 23, 1);
        comesTo(none, 1, 8, 0, 0, 0, 0, 0, 0, 21, 0);
        comesTo(none, 1, 60, 2, 0, 0, 0, 0, 0, 23, 1);
        none.explore(1);
        due("it is among the instructions", none.step(0, 0, 1), 1);
        due("the last one", none.step(0, 0, 2), -1);
    }

    private static void jumpToRefused() {
        sentence("JUMP: a MARK that was refused is none");
        ContractProbe full = with(PUSH, 7, JUMP, 0);
        for (int i = 2; i < 32; i++) {
            full.add(STOP, 0);
        }
        full.add(MARK, 7);
        due("JUMP", full.replay(1, 0), 2);
    }

    private static void branch() {
        sentence("BRANCH: if y is not 0, goes to the first MARK with argument x");
        ContractProbe branch = with(INPUT, 0, PUSH, 3, BRANCH, 0, STOP, 0, MARK, 3, REVERT, 0, MARK, 3, STOP, 0);
        comesTo(branch, 1, 0, 0, 0, 0, 0, 0, 0, 20, 0);
        for (int input = 1; input <= 15; input++) {
            comesTo(branch, 1, 4 * input, 1, 0, 0, 0, 0, 0, 19, 0);
        }
    }

    private static ContractProbe markTwoAlone() {
        return with(INPUT, 0, CALLER, 0, BRANCH, 0, STOP, 0, MARK, 2);
    }

    private static void branchToNone() {
        sentence("BRANCH faults if there is none");
        ContractProbe nowhere = markTwoAlone();
        comesTo(nowhere, 1, 4 * 15 + 1, 2, 0, 0, 0, 0, 0, 22, 2);
        comesTo(nowhere, 1, 4 * 1 + 3, 2, 0, 0, 0, 0, 0, 22, 2);
        comesTo(nowhere, 1, 4 * 1 + 2, 0, 0, 0, 0, 0, 0, 20, 0);
    }

    private static void branchOnZero() {
        sentence("BRANCH with y 0 needs no MARK");
        comesTo(markTwoAlone(), 1, 1, 0, 0, 0, 0, 0, 0, 20, 0);
    }

    private static void sendPaid() {
        sentence("SEND: if it is not above the balance, the balance becomes x less, and 1 is put");
        int[][] paid = {{6, 6}, {6, 5}, {6, 0}, {15, 15}, {0, 0}, {1, 1}};
        for (int[] p : paid) {
            ContractProbe x = with(PUSH, p[1], SEND, 0, PUSH, 0, STORE, 0);
            x.start(p[0], 24);
            comesTo(x, 1, 0, 0, 1, 0, 0, 0, p[0] - p[1], 14, 0);
        }
    }

    private static void sendRefused() {
        sentence("SEND: else 0 is put");
        int[][] kept = {{6, 7}, {6, 15}, {0, 1}, {0, 15}, {14, 15}};
        for (int[] k : kept) {
            ContractProbe x = with(PUSH, 3, PUSH, 0, STORE, 0, PUSH, k[1], SEND, 0, PUSH, 0, STORE, 0);
            x.start(k[0], 24);
            comesTo(x, 1, 0, 0, 0, 0, 0, 0, k[0], 9, 0);
        }
    }

    private static void sendTwice() {
        sentence("SEND: a second transaction has what the first one left");
        ContractProbe four = with(PUSH, 4, SEND, 0, PUSH, 0, STORE, 0, BALANCE, 0, PUSH, 1, STORE, 0);
        four.start(15, 24);
        comesTo(four, 2, 0, 0, 1, 7, 0, 0, 7);
        four.start(8, 24);
        comesTo(four, 2, 0, 0, 1, 0, 0, 0, 0);
        four.start(7, 24);
        comesTo(four, 2, 0, 0, 0, 3, 0, 0, 3);
    }

    private static void assertion() {
        sentence("ASSERT takes x, faults if it is 0");
        ContractProbe check = with(INPUT, 0, ASSERT, 0);
        comesTo(check, 1, 0, 2, 0, 0, 0, 0, 0, 23, 1);
        comesTo(check, 1, 4, 0, 0, 0, 0, 0, 0, 22, 0);
        comesTo(check, 1, 60, 0, 0, 0, 0, 0, 0, 22, 0);
    }
}
