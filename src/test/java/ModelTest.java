import java.util.Map;
import java.util.TreeMap;

/** Many runs of calls, each answer held against the Model; the same runs each time. */
public final class ModelTest {
    private static final int RUNS = 700;
    private static final int CALLS = 512;

    interface Answer {
        long get();
    }

    private final PlanBranches plans = new PlanBranches();
    private final Model model = new Model();
    private final int mostTasks;
    private final int mostLength;
    private final int mostBranches;
    private final int mostCrews;
    private final boolean crowded;
    private long seed;
    private int made = 0;
    private final StringBuilder told = new StringBuilder();

    private static final Map<String, Integer> seen = new TreeMap<>();

    private ModelTest(int run) {
        seed = run * 7919L + 17;
        mostTasks = new int[] {3, 5, 6, 16}[run % 4];
        mostLength = new int[] {20, 6, 20, 20, 2}[run % 5];
        mostBranches = new int[] {2, 3, 8}[run % 3];
        crowded = run % 7 > 4;
        mostCrews = crowded ? 0 : new int[] {0, 1, 4}[run % 7 % 3];
    }

    public static void main(String[] args) {
        for (int run = 0; run < RUNS; run++) {
            ModelTest test = new ModelTest(run);
            if (!test.runs()) {
                Check.due("run " + run + " of\n" + test.told, "another answer", "the model's");
                break;
            }
        }
        String[] wanted = {"reason 0", "reason 1", "reason 2", "reason 3", "reason 4", "reason 5",
            "merge some", "update some", "byAll ahead of rule", "byAll alone", "leftOut some", "leftOut none",
            "throws IndexOutOfBoundsException", "throws IllegalArgumentException", "throws IllegalStateException"};
        for (String each : wanted) {
            Check.due("there was some '" + each + "'", seen.getOrDefault(each, 0) >= 10, true);
        }
        System.out.println(seen);
        Check.end();
    }

    private int random(int from, int to) {
        seed = seed * 6364136223846793005L + 1442695040888963407L;
        return from + (int) ((seed >>> 33) % (to - from + 1));
    }

    /** Mostly a value in its range, now and then one beside it. */
    private int argument(int from, int to) {
        int kind = random(0, 99);
        return kind == 0 ? from - 1 : kind == 1 ? to + 1 : random(from, to);
    }

    private int branch() {
        return random(0, 60) == 0 ? random(-1, 8) : random(0, model.begunBranches() - 1);
    }

    private int task() {
        return random(0, 80) == 0 ? random(-1, 16) : random(0, mostTasks - 1);
    }

    private boolean runs() {
        if (!starts()) {
            return false;
        }
        while (made + 40 <= CALLS) {
            if (crowded && random(0, 1) == 0 ? !stepCrowded() : !step(random(0, 99)) || random(0, 9) == 0 && !asks()) {
                return false;
            }
        }
        return true;
    }

    /** A branch 1, and days of most crews for it, so that not all joining is stuck. */
    private boolean starts() {
        boolean good = same("begin(0)", () -> plans.begin(0), () -> model.begin(0));
        for (int crew = random(0, 1); crew <= mostCrews; crew++) {
            int c = crew;
            int from = random(100, 300);
            good &= same("lend(" + c + ", 1, " + from + ", 399)",
                    () -> plans.lend(c, 1, from, 399), () -> model.lend(c, 1, from, 399));
        }
        return good && (!crowded || crowds());
    }

    /** Short days of the only crew, so that the order matters of the tasks that are placed in them. */
    private boolean crowds() {
        boolean good = true;
        int from = 0;
        for (int loan = 0; loan < 6; loan++) {
            int first = from;
            int last = loan == 5 ? 399 : from + random(mostLength / 2, 2 * mostLength);
            int b = loan % 2;
            good &= same("lend(0, " + b + ", " + first + ", " + last + ")",
                    () -> plans.lend(0, b, first, last), () -> model.lend(0, b, first, last));
            from = Math.min(last + 1, 360);
        }
        return good;
    }

    private boolean same(String call, Answer got, Answer want) {
        made++;
        String one = answer(got);
        String two = answer(want);
        told.append(call).append(" answered ").append(one).append(", due is ").append(two).append('\n');
        if (two.startsWith("throws")) {
            see(two);
        }
        return one.equals(two);
    }

    private static String answer(Answer answer) {
        try {
            return Long.toString(answer.get());
        } catch (RuntimeException e) {
            return "throws " + e.getClass().getSimpleName();
        }
    }

    private static void see(String what) {
        seen.merge(what, 1, Integer::sum);
    }

    private boolean step(int kind) {
        if (kind < 30) {
            return stepSetTask();
        } else if (kind < 36) {
            int b = branch();
            int t = task();
            return same("removeTask(" + b + ", " + t + ")", () -> plans.removeTask(b, t), () -> model.removeTask(b, t));
        } else if (kind < 58) {
            return stepSetNeed();
        } else if (kind < 62) {
            int b = branch();
            return same("undo(" + b + ")", () -> plans.undo(b), () -> model.undo(b));
        } else if (kind < 65) {
            int b = branch();
            return model.begunBranches() >= mostBranches && random(0, 9) != 0
                    || same("begin(" + b + ")", () -> plans.begin(b), () -> model.begin(b));
        } else if (kind < 70) {
            return stepCrews();
        } else if (kind < 73) {
            int b = branch();
            int to = argument(0, random(0, 2) == 0 ? 1000 : 1000000);
            return same("setBudget(" + b + ", " + to + ")", () -> plans.setBudget(b, to), () -> model.setBudget(b, to));
        } else if (kind < 79) {
            int b = branch();
            int t = task();
            int side = argument(-1, 1);
            return same("resolve(" + b + ", " + t + ", " + side + ")",
                    () -> plans.resolve(b, t, side), () -> model.resolve(b, t, side));
        }
        return stepJoin(kind < 90);
    }

    /** Often only a part of the task becomes another, so that parts are mixed. */
    private boolean stepSetTask() {
        int b = branch();
        int t = task();
        boolean there = b >= 0 && b < model.begunBranches() && t >= 0 && t < 16 && model.length(b, t) > 0;
        int part = random(0, 5);
        int length = there && part > 1 ? model.length(b, t) : argument(1, mostLength);
        int crew = there && part != 2 ? model.crew(b, t) : random(0, 1) == 0 && !crowded ? -1 : argument(-1, mostCrews);
        int cost = random(0, 3) == 0 ? argument(0, 1000) : random(0, 3);
        return same("setTask(" + b + ", " + t + ", " + length + ", " + crew + ", " + cost + ")",
                () -> plans.setTask(b, t, length, crew, cost) ? 1 : 0,
                () -> model.setTask(b, t, length, crew, cost) ? 1 : 0);
    }

    /** Lets a task need the crew for other days, and asks for the days then. */
    private boolean stepCrowded() {
        int b = random(0, 1);
        int t = random(0, Math.min(mostTasks, 6) - 1);
        int length = random(1, mostLength);
        return same("setTask(" + b + ", " + t + ", " + length + ", 0, 1)",
                () -> plans.setTask(b, t, length, 0, 1) ? 1 : 0, () -> model.setTask(b, t, length, 0, 1) ? 1 : 0)
                && asksOfDays(b, t, 0, random(0, 60));
    }

    private boolean stepSetNeed() {
        int b = branch();
        int t = task();
        int other = task();
        boolean does = random(0, 3) != 0;
        return same("setNeed(" + b + ", " + t + ", " + other + ", " + does + ")",
                () -> plans.setNeed(b, t, other, does) ? 1 : 0, () -> model.setNeed(b, t, other, does) ? 1 : 0);
    }

    private boolean stepCrews() {
        int b = branch();
        int crew = argument(0, 4);
        if (random(0, 5) == 0) {
            return same("give(" + crew + ", " + b + ")", () -> plans.give(crew, b), () -> model.give(crew, b));
        }
        int from = random(0, 3) == 0 ? argument(0, 399) : argument(0, 40);
        int to = random(0, 3) == 0 ? argument(from, Math.max(from, 399)) : random(0, 1) == 0 ? argument(from, from + 10) : 399;
        return same("lend(" + crew + ", " + b + ", " + from + ", " + to + ")",
                () -> plans.lend(crew, b, from, to), () -> model.lend(crew, b, from, to));
    }

    /** Asks for the reason, often behind resolving what clashes, then joins. */
    private boolean stepJoin(boolean merges) {
        int b = random(0, 9) == 0 ? branch() : random(1, model.begunBranches() - 1);
        if (random(0, 1) == 0 && !resolvesAll(b)) {
            return false;
        }
        see("reason " + answer(() -> model.reason(b, merges)));
        boolean good = same("clashes(" + b + ")", () -> plans.clashes(b), () -> model.clashes(b))
                && same("reason(" + b + ", " + merges + ")", () -> plans.reason(b, merges), () -> model.reason(b, merges))
                && same("reasonTask(" + b + ", " + merges + ")",
                        () -> plans.reasonTask(b, merges), () -> model.reasonTask(b, merges));
        long[] got = {0};
        boolean joined = merges
                ? same("merge(" + b + ")", () -> got[0] = plans.merge(b), () -> model.merge(b))
                : same("update(" + b + ")", () -> got[0] = plans.update(b), () -> model.update(b));
        if (got[0] > 0) {
            see(merges ? "merge some" : "update some");
        }
        return good && joined;
    }

    private boolean resolvesAll(int b) {
        int clashing = b < 1 || b >= model.begunBranches() ? 0 : model.clashes(b);
        boolean good = true;
        for (int task = 0; task < 16; task++) {
            if ((clashing >> task & 1) != 0) {
                int t = task;
                int side = random(0, 1);
                good &= same("resolve(" + b + ", " + t + ", " + side + ")",
                        () -> plans.resolve(b, t, side), () -> model.resolve(b, t, side));
            }
        }
        return good;
    }

    private boolean asks() {
        int b = branch();
        int t = task();
        int crew = argument(0, 4);
        int day = random(0, 1) == 0 ? argument(0, 399) : random(0, 30);
        int left = b < 0 || b >= model.begunBranches() ? -1 : model.leftOut(b);
        see(left == 0 ? "leftOut none" : "leftOut some");
        return same("tasks(" + b + ")", () -> plans.tasks(b), () -> model.tasks(b))
                && same("length(" + b + ", " + t + ")", () -> plans.length(b, t), () -> model.length(b, t))
                && same("crew(" + b + ", " + t + ")", () -> plans.crew(b, t), () -> model.crew(b, t))
                && same("needs(" + b + ", " + t + ")", () -> plans.needs(b, t), () -> model.needs(b, t))
                && same("cost(" + b + ")", () -> plans.cost(b), () -> model.cost(b))
                && same("branches()", () -> plans.branches(), () -> model.branches())
                && same("parent(" + b + ")", () -> plans.parent(b), () -> model.parent(b))
                && same("holder(" + crew + ", " + day + ")", () -> plans.holder(crew, day), () -> model.holder(crew, day))
                && same("tail(" + b + ", " + t + ")", () -> plans.tail(b, t), () -> model.tail(b, t))
                && same("slack(" + b + ", " + t + ")", () -> plans.slack(b, t), () -> model.slack(b, t))
                && asksOfDays(b, t, crew, day);
    }

    private boolean asksOfDays(int b, int t, int crew, int day) {
        boolean good = same("critical(" + b + ")", () -> plans.critical(b), () -> model.critical(b))
                && same("way(" + b + ")", () -> plans.way(b), () -> model.way(b))
                && same("firstDay(" + b + ", " + t + ")", () -> plans.firstDay(b, t), () -> model.firstDay(b, t))
                && same("leftOut(" + b + ")", () -> plans.leftOut(b), () -> model.leftOut(b))
                && same("lastDay(" + b + ")", () -> plans.lastDay(b), () -> model.lastDay(b))
                && same("taskOn(" + b + ", " + crew + ", " + day + ")",
                        () -> plans.taskOn(b, crew, day), () -> model.taskOn(b, crew, day));
        if (good && random(0, 2) == 0) {
            good = same("lastDayByAll(" + b + ")", () -> plans.lastDayByAll(b), () -> model.lastDayByAll(b));
            seeByAll(answer(() -> model.lastDayByAll(b)), answer(() -> model.lastDay(b)), answer(() -> model.leftOut(b)));
        }
        return good;
    }

    private static void seeByAll(String byAll, String byRule, String leftOut) {
        if (!byAll.startsWith("throws") && !byAll.equals("-1")) {
            see(Long.parseLong(byAll) < Long.parseLong(byRule) ? "byAll ahead of rule" : "byAll as rule");
            if (!leftOut.equals("0")) {
                see("byAll alone");
            }
        }
    }
}
