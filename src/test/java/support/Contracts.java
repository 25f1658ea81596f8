/** What tests need to write a contract down: the operators by name, and an object that has the code. */
abstract class Contracts {
    static final int PUSH = 0;
    static final int INPUT = 1;
    static final int CALLER = 2;
    static final int DUP = 3;
    static final int SWAP = 4;
    static final int POP = 5;
    static final int ADD = 6;
    static final int SUB = 7;
    static final int MUL = 8;
    static final int AND = 9;
    static final int XOR = 10;
    static final int LESS = 11;
    static final int EQUAL = 12;
    static final int ZERO = 13;
    static final int LOAD = 14;
    static final int STORE = 15;
    static final int MARK = 16;
    static final int JUMP = 17;
    static final int BRANCH = 18;
    static final int SEND = 19;
    static final int BALANCE = 20;
    static final int ASSERT = 21;
    static final int STOP = 22;
    static final int REVERT = 23;
    static final int DESTROY = 24;

    static final int LOWEST = Integer.MIN_VALUE;
    static final int HIGHEST = Integer.MAX_VALUE;

    /** A new object with code: pairs of operator and argument. */
    static ContractProbe with(int... code) {
        ContractProbe x = new ContractProbe();
        append(x, code);
        return x;
    }

    static void append(ContractProbe x, int... code) {
        for (int i = 0; i + 1 < code.length; i += 2) {
            x.add(code[i], code[i + 1]);
        }
    }

    static void due(String what, int got, int want) {
        Check.due(what, got, want);
    }

    /** A call that throws must not keep the tests behind it from being done. */
    static void test(Runnable test) {
        try {
            test.run();
        } catch (RuntimeException e) {
            Check.isTrue("no call throws: " + e, false);
        }
    }

    static void sentence(String text) {
        Check.sentence(text);
    }

    /** Replays: how the last transaction ends and what is left: cells 0 to 3, balance, gas, words on the stack. */
    static void comesTo(ContractProbe x, int n, int number, int end, int... left) {
        String call = "replay(" + n + ", " + number + ")";
        due(call, x.replay(n, number), end);
        for (int i = 0; i < left.length; i++) {
            due(call + ", replayed(" + i + ")", x.replayed(i), left[i]);
        }
    }

    /** Inputs go to marks of their own: the lowest destroy, some stop, the others have no mark and fault. */
    static ContractProbe jumpTable(int destroying, int stopping) {
        ContractProbe x = with(INPUT, 0, JUMP, 0);
        for (int mark = 0; mark < destroying; mark++) {
            x.add(MARK, mark);
        }
        x.add(DESTROY, 0);
        for (int mark = destroying; mark < destroying + stopping; mark++) {
            x.add(MARK, mark);
        }
        return x;
    }

    /** Each of four callers goes another way, then each input 0 to 8, and those above fault. */
    static void appendFortyWays(ContractProbe x) {
        append(x, CALLER, 0, PUSH, 12, ADD, 0, JUMP, 0, MARK, 12, MARK, 13, MARK, 14, MARK, 15);
        append(x, INPUT, 0, DUP, 0, PUSH, 9, LESS, 0, ASSERT, 0, JUMP, 0);
        for (int mark = 0; mark < 9; mark++) {
            x.add(MARK, mark);
        }
    }
}
