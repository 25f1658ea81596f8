import java.util.List;

/** Holds ContractProbe against PlainModel, call by call, over contracts made from fixed seeds. */
public final class ModelTest {
    private static final int CONTRACTS = 320;
    private static final int MOST_CALLS = 512;

    private static final int[] endsSeen = new int[5];
    private static final int[] kindsSeen = new int[5];
    private static int tooManySeen = 0;
    private static int severalPathsSeen = 0;

    private long seed;
    private final PlainModel before;
    private final PlainModel model = new PlainModel();
    private ContractProbe probe;
    private int calls = 0;

    private ModelTest(long seed, PlainModel before) {
        this.seed = seed;
        this.before = before;
    }

    public static void main(String[] args) {
        PlainModel before = null;
        for (int c = 0; c < CONTRACTS; c++) {
            ModelTest test = new ModelTest(c * 7919L + 17, before);
            test.makeContract();
            before = test.model;
            test.compareReplays("contract " + c);
            test.compareExploration("contract " + c, 1);
            test.compareExploration("contract " + c, 2);
        }
        requireThatMuchWasSeen();
        Check.finish();
    }

    /** If the contracts made here were too dull, the comparison would prove little. */
    private static void requireThatMuchWasSeen() {
        for (int i = 0; i < 5; i++) {
            Check.isTrue("end " + i + " is seen often: " + endsSeen[i], endsSeen[i] >= 30);
            Check.isTrue("kind " + i + " is seen often: " + kindsSeen[i], kindsSeen[i] >= 30);
        }
        Check.isTrue("too many paths are seen: " + tooManySeen, tooManySeen >= 10);
        Check.isTrue("several paths are seen: " + severalPathsSeen, severalPathsSeen >= 100);
    }

    private int below(int bound) {
        seed = seed * 6364136223846793005L + 1442695040888963407L;
        return (int) ((seed >>> 33) % bound);
    }

    private void makeContract() {
        model.balance = below(16);
        model.limit = below(3) == 0 ? 1 + below(40) : 30 + below(11);
        int length = below(4) == 0 ? 32 : 3 + below(29);
        if (below(3) == 0) {
            appendLoop();
        }
        for (int k = 0; k < 100 && model.code.size() < length; k++) {
            appendStatement();
        }
    }

    /** Goes round once for each unit of the input, or so: this makes many paths. */
    private void appendLoop() {
        int mark = below(3);
        put(1, 0);
        if (below(2) == 0) {
            put(0, 7);
            put(9, 0);
        }
        put(16, mark);
        put(0, 1 + below(2));
        put(7, 0);
        put(3, 0);
        put(0, mark);
        put(18, 0);
    }

    private void appendStatement() {
        int choice = below(40);
        if (choice < 7) {
            appendTerm();
            put(0, below(5));
            put(15, 0);
        } else if (choice < 14) {
            appendTerm();
            put(0, below(3));
            put(18, 0);
        } else if (choice < 20) {
            put(16, below(3));
        } else if (choice < 23) {
            appendTerm();
            put(21, 0);
        } else if (choice < 28) {
            appendTerm();
            put(19, 0);
            put(choice < 26 ? 5 : 21, 0);
        } else if (choice < 37) {
            appendGuardedEnd();
        } else if (choice == 37) {
            appendTerm();
            put(17, 0);
        } else if (choice == 38) {
            put(below(25), below(4));
        } else {
            appendTerm();
        }
    }

    /** Without the guard most contracts would end before anything has happened. */
    private void appendGuardedEnd() {
        int mark = 3 + below(12);
        appendTerm();
        put(0, mark);
        put(18, 0);
        put(22 + below(3), 0);
        put(16, mark);
    }

    private void appendTerm() {
        appendSource();
        while (below(5) < 2) {
            if (below(4) == 0) {
                put(3, 0);
            } else {
                appendSource();
            }
            put(6 + below(7), 0);
        }
        if (below(5) == 0) {
            put(13, 0);
        }
    }

    private void appendSource() {
        switch (below(7)) {
            case 0, 1, 2 -> put(1, 0);
            case 3 -> put(2, 0);
            case 4 -> put(0, below(16));
            case 5 -> put(20, 0);
            default -> {
                put(0, below(4));
                put(14, 0);
            }
        }
    }

    private void put(int op, int a) {
        if (model.code.size() < 32) {
            model.code.add(new int[] {op, a});
        }
    }

    /** An object that has served the contract before this one, so that nothing of that may shine through. */
    private ContractProbe usedProbe() {
        ContractProbe used = new ContractProbe();
        calls = 0;
        if (before != null) {
            teach(used, before);
            used.explore(2);
            used.replay(2, 4095);
            used.clear();
            calls += 3;
        }
        teach(used, model);
        return used;
    }

    private void teach(ContractProbe pupil, PlainModel contract) {
        for (int[] instruction : contract.code) {
            pupil.add(instruction[0], instruction[1]);
            calls++;
        }
        pupil.start(contract.balance, contract.limit);
        calls++;
    }

    /** Code, balance and limit are changed behind the exploration: it must stay as it is. */
    private void changeAll(ContractProbe pupil) {
        pupil.clear();
        pupil.add(24, 0);
        pupil.start(15 - model.balance, 41 - model.limit);
        calls += 3;
    }

    /** An explored object; the promises hold for 512 calls, so a new one takes over before they are used up. */
    private ContractProbe explored(int n) {
        if (probe == null || calls >= MOST_CALLS) {
            probe = usedProbe();
            probe.explore(n);
            calls++;
            changeAll(probe);
        }
        calls++;
        return probe;
    }

    private void compareReplays(String name) {
        for (int k = 0; k < 60; k++) {
            int n = 1 + below(2);
            int number = below(n == 1 ? 64 : 4096);
            PlainModel.Run run = model.replay(n, number);
            String call = name + ": replay(" + n + ", " + number + ")";
            ContractProbe used = usedProbe();
            Check.due(call, used.replay(n, number), run.last().end());
            changeAll(used);
            for (int i = 0; i < 5; i++) {
                Check.due(call + ", replayed(" + i + ")", used.replayed(i), run.left(i));
            }
            Check.due(call + ", replayed(5)", used.replayed(5), run.last().gas());
            Check.due(call + ", replayed(6)", used.replayed(6), run.last().words());
        }
    }

    private void compareExploration(String name, int n) {
        List<List<PlainModel.Run>> paths = model.explore(n);
        String call = name + ": explore(" + n + ")";
        boolean tooMany = paths.size() > 40;
        Check.due(call, usedProbe().explore(n), tooMany ? -2 : paths.size());
        probe = null;
        if (tooMany) {
            tooManySeen++;
            paths = List.of();
        } else if (paths.size() > 3) {
            severalPathsSeen++;
        }
        for (int path = -1; path <= paths.size(); path++) {
            boolean there = path >= 0 && path < paths.size();
            comparePath(call, n, path, there ? paths.get(path) : List.of());
            compareRisks(call, n, path, there ? paths.get(path) : List.of());
        }
        compareFindings(call, n, paths);
    }

    private void comparePath(String name, int n, int path, List<PlainModel.Run> runs) {
        boolean there = !runs.isEmpty();
        String call = name + ", path " + path + ": ";
        Check.due(call + "inputs", explored(n).inputs(path), there ? runs.size() : -1);
        Check.due(call + "witness", explored(n).witness(path), there ? runs.get(0).number() : -1);
        for (int t = -1; t <= 2; t++) {
            PlainModel.Outcome o = there && t >= 0 && t < n ? runs.get(0).outcomes().get(t) : null;
            Check.due(call + "end " + t, explored(n).end(path, t), o == null ? -1 : o.end());
            if (o != null) {
                endsSeen[o.end()]++;
            }
            for (int k = -1; k <= 41; k++) {
                boolean done = o != null && k >= 0 && k < o.steps().size();
                Check.due(call + "step " + t + ", " + k, explored(n).step(path, t, k), done ? o.steps().get(k) : -1);
            }
        }
        for (int i = -1; i <= 5; i++) {
            Check.due(call + "left " + i, explored(n).left(path, i), there && i >= 0 && i <= 4 ? leftOf(runs, i) : -1);
        }
    }

    private static int leftOf(List<PlainModel.Run> runs, int i) {
        int atWitness = runs.get(0).left(i);
        for (PlainModel.Run run : runs) {
            if (run.left(i) != atWitness) {
                return atWitness;
            }
        }
        return atWitness + 16;
    }

    private void compareRisks(String name, int n, int path, List<PlainModel.Run> runs) {
        for (int kind = -1; kind <= 5; kind++) {
            for (int i = -1; i <= 32; i++) {
                int want = -1;
                if (!runs.isEmpty() && kind >= 0 && kind <= 4 && i >= 0 && i <= 31) {
                    want = 0;
                    for (PlainModel.Run run : runs) {
                        want += run.has(kind, i) ? 1 : 0;
                    }
                }
                String call = name + ": risk(" + path + ", " + kind + ", " + i + ")";
                Check.due(call, explored(n).risk(path, kind, i), want);
            }
        }
    }

    private void compareFindings(String name, int n, List<List<PlainModel.Run>> paths) {
        for (int kind = -1; kind <= 5; kind++) {
            for (int i = -1; i <= 32; i++) {
                int want = -1;
                for (List<PlainModel.Run> runs : paths) {
                    for (PlainModel.Run run : runs) {
                        if (run.has(kind, i) && (want == -1 || run.number() < want)) {
                            want = run.number();
                        }
                    }
                }
                Check.due(name + ": finding(" + kind + ", " + i + ")", explored(n).finding(kind, i), want);
                if (want >= 0) {
                    kindsSeen[kind]++;
                }
            }
        }
    }
}
