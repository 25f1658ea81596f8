import java.util.ArrayList;
import java.util.LinkedHashMap;
import java.util.List;
import java.util.Map;
import java.util.Set;
import java.util.TreeSet;

/**
 * The document's words, done in the slowest and plainest way: every input number by itself, in order,
 * ways compared as texts. It shares nothing with ContractProbe, so that the two can be held together.
 */
final class PlainModel {
    /** What one transaction came to; a finding is 32 * kind + instruction. */
    record Outcome(List<Integer> steps, int end, int[] cells, int balance, int gas, int words, Set<Integer> findings) {
    }

    /** What the transactions of one input number came to, one after the other. */
    record Run(int number, List<Outcome> outcomes) {
        Outcome last() {
            return outcomes.get(outcomes.size() - 1);
        }

        String way() {
            StringBuilder text = new StringBuilder();
            for (Outcome o : outcomes) {
                text.append(o.steps()).append(" ends ").append(o.end()).append("; ");
            }
            return text.toString();
        }

        boolean has(int kind, int i) {
            if (kind < 0 || kind > 4 || i < 0 || i > 31) {
                return false;
            }
            for (Outcome o : outcomes) {
                if (o.findings().contains(32 * kind + i)) {
                    return true;
                }
            }
            return false;
        }

        int left(int i) {
            return i == 4 ? last().balance() : last().cells()[i];
        }
    }

    final List<int[]> code = new ArrayList<>();
    int balance = 0;
    int limit = 24;

    /** The runs by path; input numbers come in order, so the paths are in the order of their witnesses. */
    List<List<Run>> explore(int n) {
        Map<String, List<Run>> byWay = new LinkedHashMap<>();
        for (int number = 0; number < (n == 1 ? 64 : 4096); number++) {
            Run run = replay(n, number);
            byWay.computeIfAbsent(run.way(), way -> new ArrayList<>()).add(run);
        }
        return new ArrayList<>(byWay.values());
    }

    Run replay(int n, int number) {
        List<Outcome> outcomes = new ArrayList<>();
        int[] cells = {0, 0, 0, 0};
        int money = balance;
        boolean destroyed = false;
        for (int t = 0; t < n; t++) {
            int own = n == 2 && t == 0 ? number / 64 : number % 64;
            Outcome o = destroyed
                ? new Outcome(List.of(), 4, cells, money, 0, 0, Set.of())
                : transaction(cells, money, own / 4, own % 4);
            outcomes.add(o);
            cells = o.cells();
            money = o.balance();
            destroyed = o.end() == 3;
        }
        return new Run(number, outcomes);
    }

    private Outcome transaction(int[] cellsBefore, int balanceBefore, int input, int caller) {
        int[] cells = cellsBefore.clone();
        int money = balanceBefore;
        int gas = limit;
        int at = 0;
        boolean sent = false;
        List<Integer> stack = new ArrayList<>();
        List<Integer> steps = new ArrayList<>();
        Set<Integer> findings = new TreeSet<>();
        while (at < code.size()) {
            int op = code.get(at)[0];
            int a = code.get(at)[1];
            int here = at;
            steps.add(here);
            List<Integer> rest = new ArrayList<>(stack);
            int cost = op == 19 ? 5 : op == 8 || op == 15 ? 3 : 1;
            int takes = (op >= 6 && op <= 12) || op == 15 || op == 18 ? 2
                : op == 5 || op == 13 || op == 14 || op == 17 || op == 19 || op == 21 ? 1 : 0;
            boolean fault = gas < cost || stack.size() < takes;
            int faultKind = 4;
            int end = -1;
            if (!fault) {
                int x = takes > 0 ? rest.remove(rest.size() - 1) : 0;
                int y = takes > 1 ? rest.remove(rest.size() - 1) : 0;
                at = here + 1;
                switch (op) {
                    case 0 -> rest.add(a);
                    case 1 -> rest.add(input);
                    case 2 -> rest.add(caller);
                    case 3 -> {
                        fault = rest.size() <= a;
                        if (!fault) {
                            rest.add(rest.get(rest.size() - 1 - a));
                        }
                    }
                    case 4 -> {
                        fault = rest.size() <= a + 1;
                        if (!fault) {
                            int top = rest.get(rest.size() - 1);
                            rest.set(rest.size() - 1, rest.get(rest.size() - 1 - (a + 1)));
                            rest.set(rest.size() - 1 - (a + 1), top);
                        }
                    }
                    case 6 -> rest.add(Math.floorMod(y + x, 16));
                    case 7 -> rest.add(Math.floorMod(y - x, 16));
                    case 8 -> rest.add(Math.floorMod(y * x, 16));
                    case 9 -> rest.add(y & x);
                    case 10 -> rest.add(y ^ x);
                    case 11 -> rest.add(y < x ? 1 : 0);
                    case 12 -> rest.add(y == x ? 1 : 0);
                    case 13 -> rest.add(x == 0 ? 1 : 0);
                    case 14 -> rest.add(cells[x % 4]);
                    case 15 -> cells[x % 4] = y;
                    case 17, 18 -> {
                        if (op == 17 || y != 0) {
                            at = firstMark(x);
                            fault = at < 0;
                        }
                    }
                    case 19 -> {
                        boolean pays = x <= money;
                        money -= pays ? x : 0;
                        sent |= pays;
                        rest.add(pays ? 1 : 0);
                    }
                    case 20 -> rest.add(money);
                    case 21 -> {
                        fault = x == 0;
                        faultKind = 0;
                    }
                    case 22 -> end = 0;
                    case 23 -> end = 1;
                    case 24 -> end = 3;
                    default -> { }
                }
                fault |= rest.size() > 6;
                if ((op == 6 && y + x > 15) || (op == 8 && y * x > 15) || (op == 7 && x > y)) {
                    findings.add(32 * 1 + here);
                }
                if (op == 24 && caller != 0) {
                    findings.add(32 * 2 + here);
                }
                if (op == 15 && sent) {
                    findings.add(32 * 3 + here);
                }
            }
            if (fault) {
                findings.add(32 * faultKind + here);
                return new Outcome(steps, 2, cellsBefore, balanceBefore, gas, stack.size(), findings);
            }
            stack = rest;
            gas -= cost;
            if (end == 1) {
                return new Outcome(steps, 1, cellsBefore, balanceBefore, gas, stack.size(), findings);
            }
            if (end >= 0) {
                return new Outcome(steps, end, cells, money, gas, stack.size(), findings);
            }
        }
        return new Outcome(steps, 0, cells, money, gas, stack.size(), findings);
    }

    private int firstMark(int argument) {
        for (int i = 0; i < code.size(); i++) {
            if (code.get(i)[0] == 16 && code.get(i)[1] == argument) {
                return i;
            }
        }
        return -1;
    }
}
