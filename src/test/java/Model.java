import java.util.ArrayDeque;
import java.util.ArrayList;
import java.util.Deque;
import java.util.List;
import java.util.Map;
import java.util.Set;
import java.util.TreeMap;
import java.util.TreeSet;

/**
 * The document told a second time, sentence by sentence and as slowly as its words go, with the
 * Java library: what the class answers is held against it. It shares nothing with the class.
 */
final class Model {
    record Task(int length, int crew, int cost, Set<Integer> needs) {
    }

    record Loan(int crew, int branch, int from, int to) {
    }

    private static final class Branch {
        int parent;
        Map<Integer, Task> plan = new TreeMap<>();
        Map<Integer, Task> base = new TreeMap<>();
        Deque<Map<Integer, Task>> undos = new ArrayDeque<>();
        Map<Integer, Integer> sides = new TreeMap<>();
        int budget = 1000000;
    }

    private static final class Joined {
        Map<Integer, Task> plan = new TreeMap<>();
        Set<Integer> clashing = new TreeSet<>();
        Set<Integer> unresolved = new TreeSet<>();
    }

    private record Verdict(int reason, int task, Map<Integer, Task> plan) {
    }

    private final List<Branch> all = new ArrayList<>();
    private final List<Loan> loans = new ArrayList<>();
    private final int[] owners = new int[5];

    Model() {
        Branch first = new Branch();
        first.parent = -1;
        all.add(first);
    }

    int begunBranches() {
        return all.size();
    }

    // ---- what a call has to be

    private Branch at(int branch) {
        if (branch < 0 || branch >= all.size()) {
            throw new IndexOutOfBoundsException();
        }
        return all.get(branch);
    }

    private static void in(int value, int from, int to) {
        if (value < from || value > to) {
            throw new IllegalArgumentException();
        }
    }

    private static void state(boolean good) {
        if (!good) {
            throw new IllegalStateException();
        }
    }

    // ---- plans

    private static void change(Branch b, int task, Task then) {
        b.undos.addLast(new TreeMap<>(b.plan));
        if (b.undos.size() > 30) {
            b.undos.removeFirst();
        }
        if (then == null) {
            b.plan.remove(task);
        } else {
            b.plan.put(task, then);
        }
    }

    boolean setTask(int branch, int task, int length, int crew, int cost) {
        Branch b = at(branch);
        in(task, 0, 15);
        in(length, 1, 20);
        in(crew, -1, 4);
        in(cost, 0, 1000);
        Task was = b.plan.get(task);
        change(b, task, new Task(length, crew, cost, was == null ? Set.of() : was.needs));
        return was != null;
    }

    int removeTask(int branch, int task) {
        Branch b = at(branch);
        in(task, 0, 15);
        state(b.plan.containsKey(task));
        for (Task other : b.plan.values()) {
            state(!other.needs.contains(task));
        }
        int was = b.plan.get(task).length;
        change(b, task, null);
        return was;
    }

    boolean setNeed(int branch, int task, int other, boolean does) {
        Branch b = at(branch);
        in(task, 0, 15);
        in(other, 0, 15);
        if (task == other) {
            throw new IllegalArgumentException();
        }
        state(b.plan.containsKey(task) && b.plan.containsKey(other));
        Task was = b.plan.get(task);
        Set<Integer> needs = new TreeSet<>(was.needs);
        if (does) {
            needs.add(other);
        } else {
            needs.remove(other);
        }
        Task then = new Task(was.length, was.crew, was.cost, needs);
        if (does) {
            Map<Integer, Task> tried = new TreeMap<>(b.plan);
            tried.put(task, then);
            for (int some : tried.keySet()) {
                state(!overOthers(tried, some).contains(some));
            }
        }
        change(b, task, then);
        return was.needs.contains(other);
    }

    int undo(int branch) {
        Branch b = at(branch);
        state(!b.undos.isEmpty());
        b.plan = b.undos.removeLast();
        return b.undos.size();
    }

    int tasks(int branch) {
        return bits(at(branch).plan.keySet());
    }

    private Task asked(int branch, int task) {
        Branch b = at(branch);
        in(task, 0, 15);
        return b.plan.get(task);
    }

    int length(int branch, int task) {
        Task asked = asked(branch, task);
        return asked == null ? 0 : asked.length;
    }

    int crew(int branch, int task) {
        Task asked = asked(branch, task);
        return asked == null ? -1 : asked.crew;
    }

    int needs(int branch, int task) {
        Task asked = asked(branch, task);
        return asked == null ? 0 : bits(asked.needs);
    }

    int cost(int branch) {
        return costOf(at(branch).plan);
    }

    private static int costOf(Map<Integer, Task> plan) {
        return plan.values().stream().mapToInt(task -> task.length * task.cost).sum();
    }

    private static int bits(Set<Integer> tasks) {
        return tasks.stream().mapToInt(task -> 1 << task).sum();
    }

    private static Set<Integer> overOthers(Map<Integer, Task> plan, int task) {
        Set<Integer> found = new TreeSet<>();
        Deque<Integer> open = new ArrayDeque<>(plan.get(task).needs);
        while (!open.isEmpty()) {
            int next = open.pop();
            if (found.add(next) && plan.containsKey(next)) {
                open.addAll(plan.get(next).needs);
            }
        }
        return found;
    }

    // ---- branches

    int begin(int parent) {
        Branch from = at(parent);
        state(all.size() < 8);
        Branch made = new Branch();
        made.parent = parent;
        made.plan = new TreeMap<>(from.plan);
        made.base = new TreeMap<>(from.plan);
        from.undos.clear();
        all.add(made);
        return all.size() - 1;
    }

    int branches() {
        return all.size();
    }

    int parent(int branch) {
        return at(branch).parent;
    }

    int setBudget(int branch, int budget) {
        Branch b = at(branch);
        in(budget, 0, 1000000);
        int was = b.budget;
        b.budget = budget;
        return was;
    }

    int resolve(int branch, int task, int side) {
        Branch b = at(branch);
        in(task, 0, 15);
        in(side, -1, 1);
        state(branch != 0);
        Integer was = side == -1 ? b.sides.remove(task) : b.sides.put(task, side);
        return was == null ? -1 : was;
    }

    int clashes(int branch) {
        return at(branch).parent == -1 ? 0 : bits(join(at(branch)).clashing);
    }

    private static boolean same(Task one, Task two) {
        return one == null ? two == null : one.equals(two);
    }

    private Joined join(Branch b) {
        Joined joined = new Joined();
        for (int task = 0; task < 16; task++) {
            Task own = b.plan.get(task);
            Task other = all.get(b.parent).plan.get(task);
            Task got = joinTask(joined, task, own, other, b.base.get(task));
            if (joined.clashing.contains(task)) {
                Integer side = b.sides.get(task);
                if (side == null) {
                    joined.unresolved.add(task);
                } else {
                    got = side == 0 ? own : other;
                }
            }
            if (got != null) {
                joined.plan.put(task, got);
            }
        }
        return joined;
    }

    private static Task joinTask(Joined joined, int task, Task own, Task other, Task base) {
        if (same(own, base)) {
            return other;
        }
        if (same(other, base) || same(own, other)) {
            return own;
        }
        if (own == null || other == null || base == null) {
            joined.clashing.add(task);
            return null;
        }
        int[] owns = {own.length, own.crew, own.cost};
        int[] others = {other.length, other.crew, other.cost};
        int[] bases = {base.length, base.crew, base.cost};
        int[] mixed = new int[3];
        for (int part = 0; part < 3; part++) {
            if (owns[part] == bases[part]) {
                mixed[part] = others[part];
            } else if (others[part] == bases[part] || owns[part] == others[part]) {
                mixed[part] = owns[part];
            } else {
                joined.clashing.add(task);
            }
        }
        Set<Integer> needs = new TreeSet<>();
        for (int need = 0; need < 16; need++) {
            boolean inOwn = own.needs.contains(need);
            if (inOwn != base.needs.contains(need) ? inOwn : other.needs.contains(need)) {
                needs.add(need);
            }
        }
        return new Task(mixed[0], mixed[1], mixed[2], needs);
    }

    private Verdict verdict(int branch, boolean merges) {
        Branch b = at(branch);
        state(branch != 0);
        Joined joined = join(b);
        Map<Integer, Task> plan = joined.plan;
        for (int task : joined.unresolved) {
            return new Verdict(1, task, null);
        }
        for (int task : plan.keySet()) {
            if (!plan.keySet().containsAll(plan.get(task).needs)) {
                return new Verdict(2, task, null);
            }
        }
        for (int task : plan.keySet()) {
            if (overOthers(plan, task).contains(task)) {
                return new Verdict(3, task, null);
            }
        }
        int getter = merges ? b.parent : branch;
        if (costOf(plan) > all.get(getter).budget) {
            return new Verdict(4, -1, null);
        }
        Map<Integer, Integer> days = byRule(plan, getter);
        for (int task : plan.keySet()) {
            if (!days.containsKey(task)) {
                return new Verdict(5, task, null);
            }
        }
        return new Verdict(0, -1, plan);
    }

    int reason(int branch, boolean merges) {
        return verdict(branch, merges).reason;
    }

    int reasonTask(int branch, boolean merges) {
        return verdict(branch, merges).task;
    }

    private static int others(Map<Integer, Task> before, Map<Integer, Task> then) {
        int count = 0;
        for (int task = 0; task < 16; task++) {
            count += same(before.get(task), then.get(task)) ? 0 : 1;
        }
        return count;
    }

    int merge(int branch) {
        Verdict verdict = verdict(branch, true);
        state(verdict.reason == 0);
        Branch own = at(branch);
        Branch parent = all.get(own.parent);
        int count = others(parent.plan, verdict.plan);
        for (Branch each : List.of(own, parent)) {
            each.plan = new TreeMap<>(verdict.plan);
            each.undos.clear();
        }
        own.base = new TreeMap<>(parent.plan);
        own.sides.clear();
        return count;
    }

    int update(int branch) {
        Verdict verdict = verdict(branch, false);
        state(verdict.reason == 0);
        Branch own = at(branch);
        int count = others(own.plan, verdict.plan);
        own.plan = new TreeMap<>(verdict.plan);
        own.undos.clear();
        own.base = new TreeMap<>(all.get(own.parent).plan);
        own.sides.clear();
        return count;
    }

    // ---- crews

    int give(int crew, int branch) {
        at(branch);
        in(crew, 0, 4);
        int was = owners[crew];
        owners[crew] = branch;
        return was;
    }

    int lend(int crew, int branch, int from, int to) {
        at(branch);
        in(crew, 0, 4);
        in(from, 0, 399);
        in(to, from, 399);
        state(loans.size() < 40);
        loans.add(new Loan(crew, branch, from, to));
        return loans.size();
    }

    int holder(int crew, int day) {
        in(crew, 0, 4);
        in(day, 0, 399);
        for (int at = loans.size() - 1; at >= 0; at--) {
            Loan loan = loans.get(at);
            if (loan.crew == crew && loan.from <= day && day <= loan.to) {
                return loan.branch;
            }
        }
        return owners[crew];
    }

    // ---- critical ways

    private static int tailOf(Map<Integer, Task> plan, int task) {
        int longest = 0;
        for (int other : plan.keySet()) {
            if (plan.get(other).needs.contains(task)) {
                longest = Math.max(longest, tailOf(plan, other));
            }
        }
        return longest + plan.get(task).length;
    }

    private static int headOf(Map<Integer, Task> plan, int task) {
        int longest = 0;
        for (int need : plan.get(task).needs) {
            longest = Math.max(longest, headOf(plan, need) + plan.get(need).length);
        }
        return longest;
    }

    int tail(int branch, int task) {
        return asked(branch, task) == null ? 0 : tailOf(at(branch).plan, task);
    }

    int slack(int branch, int task) {
        if (asked(branch, task) == null) {
            return -1;
        }
        Map<Integer, Task> plan = at(branch).plan;
        return way(branch) - headOf(plan, task) - tailOf(plan, task);
    }

    int critical(int branch) {
        Set<Integer> found = new TreeSet<>();
        for (int task : at(branch).plan.keySet()) {
            if (slack(branch, task) == 0) {
                found.add(task);
            }
        }
        return bits(found);
    }

    int way(int branch) {
        Map<Integer, Task> plan = at(branch).plan;
        return plan.keySet().stream().mapToInt(task -> tailOf(plan, task)).max().orElse(0);
    }

    // ---- days

    /** The first day of a task, given those of the tasks that have been placed; -1 if it cannot be placed. */
    private int placed(Map<Integer, Task> plan, Map<Integer, Integer> days, int task, int branch) {
        Task told = plan.get(task);
        for (int first = 0; first + told.length - 1 <= 399; first++) {
            boolean fits = true;
            for (int need : told.needs) {
                fits &= days.get(need) + plan.get(need).length - 1 < first;
            }
            for (int day = first; fits && told.crew != -1 && day < first + told.length; day++) {
                fits = holder(told.crew, day) == branch && worker(plan, days, told.crew, day) == -1;
            }
            if (fits) {
                return first;
            }
        }
        return -1;
    }

    private static int worker(Map<Integer, Task> plan, Map<Integer, Integer> days, int crew, int day) {
        for (int task : days.keySet()) {
            int first = days.get(task);
            if (plan.get(task).crew == crew && first <= day && day < first + plan.get(task).length) {
                return task;
            }
        }
        return -1;
    }

    private Map<Integer, Integer> byRule(Map<Integer, Task> plan, int branch) {
        Map<Integer, Integer> days = new TreeMap<>();
        Set<Integer> tried = new TreeSet<>();
        for (int next = 0; next != -1;) {
            next = -1;
            for (int task : plan.keySet()) {
                if (!tried.contains(task) && days.keySet().containsAll(plan.get(task).needs)
                        && (next == -1 || tailOf(plan, task) > tailOf(plan, next))) {
                    next = task;
                }
            }
            if (next != -1) {
                tried.add(next);
                int first = placed(plan, days, next, branch);
                if (first != -1) {
                    days.put(next, first);
                }
            }
        }
        return days;
    }

    private static int end(Map<Integer, Task> plan, Map<Integer, Integer> days) {
        return days.keySet().stream().mapToInt(task -> days.get(task) + plan.get(task).length - 1).max().orElse(-1);
    }

    int firstDay(int branch, int task) {
        return asked(branch, task) == null ? -1 : byRule(at(branch).plan, branch).getOrDefault(task, -1);
    }

    int leftOut(int branch) {
        Set<Integer> left = new TreeSet<>(at(branch).plan.keySet());
        left.removeAll(byRule(at(branch).plan, branch).keySet());
        return bits(left);
    }

    int lastDay(int branch) {
        return end(at(branch).plan, byRule(at(branch).plan, branch));
    }

    int lastDayByAll(int branch) {
        Map<Integer, Task> plan = at(branch).plan;
        state(plan.size() <= 6);
        int[] best = {-1};
        order(plan, branch, new ArrayList<>(), best);
        return best[0];
    }

    /** Makes all orders, and places the tasks only when an order is whole. */
    private void order(Map<Integer, Task> plan, int branch, List<Integer> order, int[] best) {
        for (int task : plan.keySet()) {
            if (!order.contains(task) && order.containsAll(plan.get(task).needs)) {
                order.add(task);
                order(plan, branch, order, best);
                order.remove(order.size() - 1);
            }
        }
        if (order.size() < plan.size()) {
            return;
        }
        Map<Integer, Integer> days = new TreeMap<>();
        for (int task : order) {
            int first = placed(plan, days, task, branch);
            if (first == -1) {
                return;
            }
            days.put(task, first);
        }
        int end = end(plan, days);
        best[0] = best[0] == -1 ? end : Math.min(best[0], end);
    }

    int taskOn(int branch, int crew, int day) {
        Branch b = at(branch);
        in(crew, 0, 4);
        in(day, 0, 399);
        return worker(b.plan, byRule(b.plan, branch), crew, day);
    }
}
