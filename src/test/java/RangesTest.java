import java.util.ArrayList;
import java.util.Arrays;
import java.util.List;
import java.util.TreeSet;

/**
 * The ranges of all arguments and the exceptions of all methods, in their order: each method with
 * all of its arguments at, beside and far beyond both ends of their ranges, in a state in which it
 * can be done and in those in which it is refused.
 */
public final class RangesTest {
    private static final int NONE = PlanBranches.NONE;
    private static final String NO_BRANCH = "Throws `IndexOutOfBoundsException` if there is no such branch";
    private static final String BAD = "Throws `IllegalArgumentException` if ";
    private static final String STATE = "Throws `IllegalStateException` if ";
    private static final String TASK = "- `task`: 0 to 15";
    private static final String BAD_TASK = BAD + "task is out of range";
    private static final String BRANCH_0 = STATE + "it is the branch 0";
    private static final String REASON = BRANCH_0 + ", or there is a reason against it";

    /** The number of branches in each state here. */
    private static final int BRANCHES = 3;

    interface Called {
        Object on(PlanBranches plans, int[] with);
    }

    interface Which {
        boolean are(int[] with);
    }

    private record Argument(boolean branch, int least, int greatest) {
    }

    private static final Argument BRANCH = new Argument(true, 0, BRANCHES - 1);
    private static final Argument BOOLEAN = new Argument(false, 0, 1);
    private static final Argument A_TASK = of(0, 15);
    private static final Argument A_CREW = of(0, 4);
    private static final Argument A_DAY = of(0, 399);

    private static final List<String> quoted = new ArrayList<>();

    public static void main(String[] args) {
        plans();
        needs();
        questionsOfTasks();
        branches();
        joins();
        crews();
        daysByAll();
        questionsChangeNothing();
        Check.of("Terms", "A call that throws changes nothing.");
        Check.due("calls that throw were held against it", refusals > 500, true);
        allIsQuoted();
        Check.end();
    }

    private static Argument of(int least, int greatest) {
        return new Argument(false, least, greatest);
    }

    // ---- the states

    /** Three branches, the third begun from the second, all with all tasks and no needs, and a change to be undone in each. */
    private static Run full() {
        Run x = new Run();
        for (int task : Check.numbers(0, 15)) {
            x.call(p -> p.setTask(0, task, task + 1, task % 6 - 1, task));
        }
        x.call(p -> p.begin(0));
        x.call(p -> p.begin(1));
        for (int branch : Check.numbers(0, 2)) {
            for (int crew : Check.numbers(0, 4)) {
                x.call(p -> p.lend(crew, branch, 130 * branch, 130 * branch + 129));
            }
            x.call(p -> p.setTask(branch, branch, 2, NONE, 500));
        }
        return x;
    }

    /** Three branches without a task and without a change. */
    private static Run empty() {
        Run x = new Run();
        x.call(p -> p.begin(0));
        x.call(p -> p.begin(1));
        return x;
    }

    /** Each task needs the one ahead of it, in all branches. */
    private static Run chain() {
        Run x = new Run();
        for (int task : Check.numbers(0, 15)) {
            x.call(p -> p.setTask(0, task, 1, NONE, 1));
        }
        for (int task : Check.numbers(1, 15)) {
            x.call(p -> p.setNeed(0, task, task - 1, true));
        }
        x.call(p -> p.begin(0));
        x.call(p -> p.begin(1));
        return x;
    }

    /** Each branch has something to be undone, and a task that clashes with that of its parent. */
    private static Run clashing() {
        Run x = empty();
        for (int branch : Check.numbers(0, 2)) {
            x.call(p -> p.setTask(branch, 15, branch + 1, NONE, 1));
            x.call(p -> p.setTask(branch, 14 - branch, 1, NONE, 1));
        }
        x.call(p -> p.resolve(1, 3, PlanBranches.OWN));
        x.call(p -> p.resolve(2, 14, PlanBranches.PARENT));
        return x;
    }

    private static Run withTasks(int count) {
        Run x = empty();
        for (int branch : Check.numbers(0, 2)) {
            for (int task : Check.numbers(0, count - 1)) {
                x.call(p -> p.setTask(branch, 15 - 2 * task, 1, NONE, 1));
            }
        }
        return x;
    }

    private static Run lent() {
        Run x = empty();
        for (int loan : Check.numbers(1, 40)) {
            x.call(p -> p.lend(loan % 5, loan % 3, loan, 9 * loan));
        }
        return x;
    }

    // ---- the methods

    private static void plans() {
        quote(2, NO_BRANCH, TASK, "- `length`: 1 to 20", "- `crew`: 0 to 4, or NONE", "- `cost`: 0 to 1000",
                BAD + "another argument is out of range");
        Called setTask = (p, a) -> p.setTask(a[0], a[1], a[2], a[3], a[4]);
        Argument[] ofTask = {BRANCH, A_TASK, of(1, 20), of(-1, 4), of(0, 1000)};
        holds(full(), setTask, a -> false, a -> false, ofTask);
        holds(empty(), setTask, a -> false, a -> false, ofTask);

        quote(3, NO_BRANCH, TASK, BAD_TASK, STATE + "it is not there, or another task needs it");
        Called removeTask = (p, a) -> p.removeTask(a[0], a[1]);
        holds(full(), removeTask, a -> false, a -> false, BRANCH, A_TASK);
        holds(empty(), removeTask, a -> false, a -> true, BRANCH, A_TASK);
        holds(chain(), removeTask, a -> false, a -> a[1] < 15, BRANCH, A_TASK);

        quote(5, NO_BRANCH, STATE + "none can be undone");
        holds(full(), (p, a) -> p.undo(a[0]), a -> false, a -> false, BRANCH);
        holds(chain(), (p, a) -> p.undo(a[0]), a -> false, a -> true, BRANCH);
    }

    private static void needs() {
        quote(4, NO_BRANCH, TASK, "- `other`: 0 to 15, another task",
                BAD + "task or other is out of range, or both are the same",
                STATE + "one of both is not there, or, if does is true, some task would need itself");
        Called setNeed = (p, a) -> p.setNeed(a[0], a[1], a[2], a[3] == 1);
        Argument[] ofNeed = {BRANCH, A_TASK, A_TASK, BOOLEAN};
        Which same = a -> a[1] == a[2];
        holds(full(), setNeed, same, a -> false, ofNeed);
        holds(empty(), setNeed, same, a -> true, ofNeed);
        holds(chain(), setNeed, same, a -> a[3] == 1 && a[1] < a[2], ofNeed);
        holds(withTasks(1), setNeed, same, a -> true, ofNeed);
    }

    private static void questionsOfTasks() {
        ofPlan(6, (p, a) -> p.tasks(a[0]));
        ofTask(7, (p, a) -> p.length(a[0], a[1]));
        ofTask(8, (p, a) -> p.crew(a[0], a[1]));
        ofTask(9, (p, a) -> p.needs(a[0], a[1]));
        ofPlan(10, (p, a) -> p.cost(a[0]));
        ofPlan(13, (p, a) -> p.parent(a[0]));
        ofPlan(16, (p, a) -> p.clashes(a[0]));
        ofTask(24, (p, a) -> p.tail(a[0], a[1]));
        ofTask(25, (p, a) -> p.slack(a[0], a[1]));
        ofPlan(26, (p, a) -> p.critical(a[0]));
        ofPlan(27, (p, a) -> p.way(a[0]));
        ofTask(28, (p, a) -> p.firstDay(a[0], a[1]));
        ofPlan(29, (p, a) -> p.leftOut(a[0]));
        ofPlan(30, (p, a) -> p.lastDay(a[0]));
    }

    /** What is only asked for becomes no other by it, and can be undone, resolved and joined as before. */
    private static void questionsChangeNothing() {
        Check.of("Not promised", "Nothing is promised beyond the answers and state changes described above");
        for (Run state : new Run[] {full(), empty(), clashing(), withTasks(6), lent(), chain()}) {
            Run asked = state.copy();
            for (int branch : Check.numbers(0, BRANCHES - 1)) {
                for (Called question : questions) {
                    for (int number : new int[] {0, 1, 3}) {
                        asked.callRefused(p -> question.on(p, new int[] {branch, number, 200}));
                    }
                }
            }
            Check.due("behind all questions", asked.state(), state.state());
        }
    }

    private static final Called[] questions = {
        (p, a) -> p.tasks(a[0]), (p, a) -> p.length(a[0], a[1]), (p, a) -> p.crew(a[0], a[1]),
        (p, a) -> p.needs(a[0], a[1]), (p, a) -> p.cost(a[0]), (p, a) -> p.branches(), (p, a) -> p.parent(a[0]),
        (p, a) -> p.clashes(a[0]), (p, a) -> p.reason(a[0], a[1] == 0), (p, a) -> p.reasonTask(a[0], a[1] == 0),
        (p, a) -> p.holder(a[1], a[2]), (p, a) -> p.tail(a[0], a[1]), (p, a) -> p.slack(a[0], a[1]),
        (p, a) -> p.critical(a[0]), (p, a) -> p.way(a[0]), (p, a) -> p.firstDay(a[0], a[1]),
        (p, a) -> p.leftOut(a[0]), (p, a) -> p.lastDay(a[0]), (p, a) -> p.lastDayByAll(a[0]),
        (p, a) -> p.taskOn(a[0], a[1], a[2]),
    };

    private static void ofPlan(int promise, Called called) {
        quote(promise, NO_BRANCH);
        holds(full(), called, a -> false, a -> false, BRANCH);
        holds(empty(), called, a -> false, a -> false, BRANCH);
    }

    private static void ofTask(int promise, Called called) {
        quote(promise, NO_BRANCH, TASK, BAD_TASK);
        holds(full(), called, a -> false, a -> false, BRANCH, A_TASK);
        holds(empty(), called, a -> false, a -> false, BRANCH, A_TASK);
    }

    private static void branches() {
        quote(11, NO_BRANCH, STATE + "there are 8");
        holds(full(), (p, a) -> p.begin(a[0]), a -> false, a -> false, BRANCH);
        Run eight = full();
        for (int branch : Check.numbers(3, 7)) {
            eight.call(p -> p.begin(branch - 1));
        }
        eight.call(p -> p.setTask(6, 0, 9, 0, 9));
        holds(eight, (p, a) -> p.begin(a[0]), a -> false, a -> true, new Argument(true, 0, 7));

        quote(14, NO_BRANCH, "- `budget`: 0 to 1000000", BAD + "budget is out of range");
        holds(full(), (p, a) -> p.setBudget(a[0], a[1]), a -> false, a -> false, BRANCH, of(0, 1000000));

        quote(15, NO_BRANCH, TASK, "- `side`: OWN or PARENT; NONE if it is not resolved any more",
                BAD + "task or side is out of range", BRANCH_0);
        Called resolve = (p, a) -> p.resolve(a[0], a[1], a[2]);
        holds(full(), resolve, a -> false, a -> a[0] == 0, BRANCH, A_TASK, of(-1, 1));
        holds(clashing(), resolve, a -> false, a -> a[0] == 0, BRANCH, A_TASK, of(-1, 1));
    }

    private static void joins() {
        for (Run state : new Run[] {full(), empty(), clashing()}) {
            quote(17, NO_BRANCH, BRANCH_0);
            holds(state, (p, a) -> p.reason(a[0], a[1] == 1), a -> false, a -> a[0] == 0, BRANCH, BOOLEAN);
            quote(18, NO_BRANCH, BRANCH_0);
            holds(state, (p, a) -> p.reasonTask(a[0], a[1] == 1), a -> false, a -> a[0] == 0, BRANCH, BOOLEAN);
        }
        quote(19, NO_BRANCH, REASON);
        holds(full(), (p, a) -> p.merge(a[0]), a -> false, a -> a[0] == 0, BRANCH);
        holds(clashing(), (p, a) -> p.merge(a[0]), a -> false, a -> true, BRANCH);
        quote(20, NO_BRANCH, REASON);
        holds(full(), (p, a) -> p.update(a[0]), a -> false, a -> a[0] == 0, BRANCH);
        holds(clashing(), (p, a) -> p.update(a[0]), a -> false, a -> true, BRANCH);
    }

    private static void crews() {
        quote(21, NO_BRANCH, "- `crew`: 0 to 4", BAD + "crew is out of range");
        holds(full(), (p, a) -> p.give(a[0], a[1]), a -> false, a -> false, A_CREW, BRANCH);
        holds(lent(), (p, a) -> p.give(a[0], a[1]), a -> false, a -> false, A_CREW, BRANCH);

        quote(22, NO_BRANCH, "- `crew`: 0 to 4", "- `from`: 0 to 399", "- `to`: from to 399",
                BAD + "crew, from or to is out of range", STATE + "there are 40");
        Called lend = (p, a) -> p.lend(a[0], a[1], a[2], a[3]);
        Which turned = a -> a[3] < a[2];
        holds(full(), lend, turned, a -> false, A_CREW, BRANCH, A_DAY, A_DAY);
        holds(lent(), lend, turned, a -> true, A_CREW, BRANCH, A_DAY, A_DAY);

        quote(23, "- `crew`: 0 to 4", "- `day`: 0 to 399", BAD + "an argument is out of range");
        holds(full(), (p, a) -> p.holder(a[0], a[1]), a -> false, a -> false, A_CREW, A_DAY);

        quote(32, NO_BRANCH, "- `crew`: 0 to 4", "- `day`: 0 to 399", BAD + "crew or day is out of range");
        Called taskOn = (p, a) -> p.taskOn(a[0], a[1], a[2]);
        holds(full(), taskOn, a -> false, a -> false, BRANCH, A_CREW, A_DAY);
        holds(empty(), taskOn, a -> false, a -> false, BRANCH, A_CREW, A_DAY);
    }

    private static void daysByAll() {
        quote(31, NO_BRANCH, STATE + "there are more than 6 tasks");
        for (int count : Check.numbers(1, 8)) {
            holds(withTasks(count), (p, a) -> p.lastDayByAll(a[0]), a -> false, a -> count > 6, BRANCH);
        }
        holds(empty(), (p, a) -> p.lastDayByAll(a[0]), a -> false, a -> false, BRANCH);
        holds(full(), (p, a) -> p.lastDayByAll(a[0]), a -> false, a -> true, BRANCH);
    }

    // ---- what has to hold for each of them

    private static int refusals = 0;

    private static void quote(int promise, String... lines) {
        for (String line : lines) {
            quoted.add("Promise " + promise + ": " + line);
        }
        Check.of("Promise " + promise, lines[lines.length - 1]);
        for (String line : lines) {
            Check.due("the document says '" + line + "'", !Doc.isHere() || Doc.says("Promise " + promise, line), true);
        }
    }

    /**
     * Each argument with each of its values, with all values of the others: what is due is the
     * exception that is listed first. Of those that throw, the ones with at most one argument out
     * of its range, and all others at an end of theirs, are held to change nothing too.
     */
    private static void holds(Run state, Called called, Which alsoBad, Which refused, Argument... arguments) {
        int[] with = new int[arguments.length];
        int[][] values = new int[arguments.length][];
        for (int at = 0; at < arguments.length; at++) {
            values[at] = values(arguments[at]);
        }
        String before = state.state();
        tryAll(0, with, values, () -> {
            String due = due(with, arguments, alsoBad, refused);
            int[] now = with.clone();
            String what = "with " + Arrays.toString(now);
            Check.due(what + " throws", Run.thrownBy(p -> called.on(p, now), state.again()), due);
            if (!due.equals("nothing") && onlyOneOut(now, arguments)) {
                refusals++;
                Run behind = state.copy();
                behind.callRefused(p -> called.on(p, now));
                Check.due(what + " is refused, so that what follows", behind.state(), before);
            }
        });
    }

    private static void tryAll(int at, int[] with, int[][] values, Runnable then) {
        if (at == with.length) {
            then.run();
            return;
        }
        for (int value : values[at]) {
            with[at] = value;
            tryAll(at + 1, with, values, then);
        }
    }

    /** The ends of a range, what is beside them, and far beyond them; of few values each one. */
    private static int[] values(Argument argument) {
        TreeSet<Integer> all = new TreeSet<>();
        int least = argument.least;
        int greatest = argument.greatest;
        if (argument != BOOLEAN) {
            all.addAll(List.of(Integer.MIN_VALUE, least - 1, greatest + 1, Integer.MAX_VALUE));
        }
        all.addAll(List.of(least, greatest));
        if (greatest - least < 8) {
            for (int value : Check.numbers(least, greatest)) {
                all.add(value);
            }
        } else {
            all.addAll(List.of(least + 1, (least + greatest) / 2, greatest - 1));
        }
        return all.stream().mapToInt(value -> value).toArray();
    }

    private static boolean onlyOneOut(int[] with, Argument[] arguments) {
        int countOut = 0;
        for (int at = 0; at < with.length; at++) {
            boolean out = out(with[at], arguments[at]);
            countOut += out ? 1 : 0;
            if (!out && with[at] != arguments[at].least && with[at] != arguments[at].greatest) {
                return false;
            }
        }
        return countOut <= 1;
    }

    private static boolean out(int value, Argument argument) {
        return value < argument.least || value > argument.greatest;
    }

    private static String due(int[] with, Argument[] arguments, Which alsoBad, Which refused) {
        boolean bad = false;
        for (int at = 0; at < with.length; at++) {
            if (out(with[at], arguments[at]) && arguments[at].branch) {
                return IndexOutOfBoundsException.class.getName();
            }
            bad |= out(with[at], arguments[at]);
        }
        if (bad || alsoBad.are(with)) {
            return IllegalArgumentException.class.getName();
        }
        return refused.are(with) ? IllegalStateException.class.getName() : "nothing";
    }

    private static void allIsQuoted() {
        for (String line : Doc.argumentsAndThrows()) {
            Check.due("'" + line + "' has a test", quoted.contains(line) || line.endsWith("- `parent`: its parent")
                    || line.endsWith("- `merges`: whether it is asked of merging"), true);
        }
    }
}
