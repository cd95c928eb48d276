/** The boundary cases of crews, ways and days, one sentence of the document after the other: "Terms" and promises 21 to 32. */
public final class DayBoundsTest {
    private static final int NONE = PlanBranches.NONE;
    private static final int ALL = 65535;

    public static void main(String[] args) {
        branch0AtFirst();
        bothDaysIncluded();
        latestLoan();
        giveAnswers();
        fortyLoans();
        tails();
        heads();
        ways();
        slacks();
        behindItsNeeds();
        heldOnEachDay();
        noOtherTask();
        atMost399();
        greatestTail();
        leftOutWithThoseThatNeedIt();
        byAnOrder();
        lastDays();
        sixTasks();
        byAllOrNone();
        taskOn();
        Check.end();
    }

    /** So many branches with empty plans, all but the branch 0 begun from it. */
    private static Run withBranches(int count) {
        Run x = new Run();
        for (int branch : Check.numbers(1, count - 1)) {
            x.call(p -> p.begin(0));
        }
        return x;
    }

    // ---- crews

    private static void branch0AtFirst() {
        Check.of("Terms", "A crew belongs to a branch, the branch 0 at first.");
        Run x = withBranches(8);
        for (int crew : Check.numbers(0, 4)) {
            for (int day : new int[] {0, 1, 200, 398, 399}) {
                x.due("crew " + crew, p -> p.holder(crew, day), 0);
            }
        }
        for (int crew : Check.numbers(0, 4)) {
            x.due("crew " + crew, p -> p.give(crew, 7 - crew), 0);
        }
        for (int crew : Check.numbers(0, 4)) {
            x.due("crew " + crew + " then", p -> p.holder(crew, 0), 7 - crew);
            x.due("crew " + crew + " then", p -> p.holder(crew, 399), 7 - crew);
        }
    }

    private static void bothDaysIncluded() {
        Check.of("Terms", "It can be lent to a branch from one day to another one, both included.");
        int[][] loans = {{0, 0}, {399, 399}, {0, 399}, {0, 1}, {398, 399}, {1, 398}, {200, 200}, {17, 300}};
        for (int[] loan : loans) {
            Run x = withBranches(8);
            x.call(p -> p.lend(4, 7, loan[0], loan[1]));
            x.due("the first day", p -> p.holder(4, loan[0]), 7);
            x.due("the last day", p -> p.holder(4, loan[1]), 7);
            x.due("a day between", p -> p.holder(4, (loan[0] + loan[1]) / 2), 7);
            if (loan[0] > 0) {
                x.due("the day ahead", p -> p.holder(4, loan[0] - 1), 0);
            }
            if (loan[1] < 399) {
                x.due("the day behind", p -> p.holder(4, loan[1] + 1), 0);
            }
            x.due("another crew", p -> p.holder(3, loan[0]), 0);
            x.fails("to a day ahead of the first", Check.BAD_ARGUMENT, p -> p.lend(4, 7, loan[0], loan[0] - 1));
        }
        Check.of("Promise 22", "Lends a crew to a branch.");
        Run days = withBranches(2);
        days.call(p -> p.lend(0, 1, 13, 31));
        for (int day : Check.numbers(0, 399)) {
            days.due("day " + day, p -> p.holder(0, day), day >= 13 && day <= 31 ? 1 : 0);
        }
        Check.of("Promise 23", "Returns the branch that holds a crew on a day.");
        for (int crew : Check.numbers(1, 4)) {
            days.due("another crew", p -> p.holder(crew, 13), 0);
        }
        days.fails("day 400", Check.BAD_ARGUMENT, p -> p.holder(0, 400));
        days.fails("day -1", Check.BAD_ARGUMENT, p -> p.holder(0, -1));
        days.fails("crew 5", Check.BAD_ARGUMENT, p -> p.holder(5, 0));
        days.fails("crew -1", Check.BAD_ARGUMENT, p -> p.holder(NONE, 0));
    }

    private static void latestLoan() {
        Check.of("Terms", "On a day a crew is held by the branch to which it is lent for this day, by the latest loan that"
                + " has it; otherwise by that to which it belongs.");
        Run x = withBranches(8);
        // Each loan is a day shorter at both ends, so that each but the last one has two days left.
        for (int loan : Check.numbers(0, 6)) {
            x.due("loans", p -> p.lend(2, loan + 1, 100 + loan, 113 - loan), loan + 1);
        }
        int[] due = {0, 1, 2, 3, 4, 5, 6, 7, 7, 6, 5, 4, 3, 2, 1, 0};
        for (int at : Check.numbers(0, 15)) {
            x.due("day " + (99 + at), p -> p.holder(2, 99 + at), due[at]);
        }
        x.due("to the branch to which it belongs", p -> p.lend(2, 0, 103, 106), 8);
        x.call(p -> p.give(2, 5));
        x.due("it belongs to another one then", p -> p.holder(2, 99), 5);
        x.due("the loan is to the branch itself", p -> p.holder(2, 106), 0);
        x.due("the loan is to the branch itself", p -> p.holder(2, 103), 0);
        x.due("behind that loan", p -> p.holder(2, 107), 7);
        x.due("ahead of that loan", p -> p.holder(2, 102), 3);
        x.due("an earlier one again", p -> p.lend(2, 1, 0, 399), 9);
        for (int day : new int[] {0, 99, 106, 107, 399}) {
            x.due("by the latest", p -> p.holder(2, day), 1);
        }
        x.due("a loan of another crew", p -> p.lend(3, 6, 0, 399), 10);
        x.due("is none of this one", p -> p.holder(2, 0), 1);
    }

    private static void giveAnswers() {
        Run x = withBranches(8);
        x.call(p -> p.lend(0, 3, 10, 20));
        Check.of("Promise 21", "Returns the branch to which it belonged.");
        for (int crew : Check.numbers(1, 4)) {
            x.due("at first", p -> p.give(crew, crew), 0);
        }
        for (int crew : Check.numbers(1, 4)) {
            x.due("then", p -> p.give(crew, 0), crew);
        }
        Check.of("Promise 21", "Gives a crew to a branch; loans stay.");
        for (int branch : Check.numbers(1, 7)) {
            x.due("belonged to", p -> p.give(0, branch), branch - 1);
            x.due("lent still, first day", p -> p.holder(0, 10), 3);
            x.due("lent still, last day", p -> p.holder(0, 20), 3);
            x.due("not lent", p -> p.holder(0, 21), branch);
            x.due("not lent", p -> p.holder(0, 9), branch);
        }
        x.due("to the same one", p -> p.give(0, 7), 7);
        x.due("back", p -> p.give(0, 0), 7);
        x.due("is no loan", p -> p.lend(0, 1, 0, 0), 2);
        x.fails("crew 5", Check.BAD_ARGUMENT, p -> p.give(5, 0));
        x.fails("crew -1", Check.BAD_ARGUMENT, p -> p.give(NONE, 0));
        x.fails("branch 8", Check.NO_BRANCH, p -> p.give(0, 8));
    }

    private static void fortyLoans() {
        Check.of("Promise 22", "Returns how many loans there are then, of all crews.");
        Run x = withBranches(8);
        for (int loan : Check.numbers(1, 39)) {
            x.due("loans", p -> p.lend(loan % 5, loan % 8, 0, 399), loan);
        }
        x.fails("one that throws is none", Check.BAD_ARGUMENT, p -> p.lend(0, 1, 1, 0));
        x.due("the fortieth", p -> p.lend(0, 5, 7, 8), 40);
        x.due("it holds", p -> p.holder(0, 8), 5);
        for (int crew : Check.numbers(0, 4)) {
            x.fails("a further one", Check.BAD_STATE, p -> p.lend(crew, 0, 0, 0));
        }
        x.fails("a further one of all days", Check.BAD_STATE, p -> p.lend(0, 6, 0, 399));
        x.due("the fortieth holds still", p -> p.holder(0, 7), 5);
        x.due("the one ahead of it too", p -> p.holder(0, 6), 35 % 8);
        Check.of("Promise 22", "Throws `IllegalStateException` if there are 40");
        x.due("given still", p -> p.give(0, 1), 0);
        x.fails("giving takes no loan back", Check.BAD_STATE, p -> p.lend(0, 0, 0, 0));

        Run one = withBranches(1);
        for (int loan : Check.numbers(1, 40)) {
            one.due("loans of one day to branch 0", p -> p.lend(4, 0, 399, 399), loan);
        }
        one.fails("a further one", Check.BAD_STATE, p -> p.lend(4, 0, 399, 399));
    }

    // ---- critical ways

    /** Tasks of so many days; each needs the one behind it in this row. */
    private static Run row(int[] tasks, int length) {
        Run x = new Run();
        for (int task : tasks) {
            x.call(p -> p.setTask(0, task, length, NONE, 0));
        }
        for (int at : Check.numbers(1, tasks.length - 1)) {
            x.call(p -> p.setNeed(0, tasks[at - 1], tasks[at], true));
        }
        return x;
    }

    private static final int[] UP = Check.numbers(0, 15);
    private static final int[] DOWN = {15, 14, 13, 12, 11, 10, 9, 8, 7, 6, 5, 4, 3, 2, 1, 0};
    private static final int[] ZIGZAG = {7, 8, 6, 9, 5, 10, 4, 11, 3, 12, 2, 13, 1, 14, 0, 15};

    private static void tails() {
        Check.of("Terms", "The tail of a task is the greatest sum of lengths of a row of tasks that begins with it, in which"
                + " each one behind the first one needs the one ahead of it.");
        for (int[] tasks : new int[][] {UP, DOWN, ZIGZAG}) {
            for (int length : new int[] {1, 20}) {
                Run x = row(tasks, length);
                for (int at : Check.numbers(0, 15)) {
                    x.due("task " + tasks[at], p -> p.tail(0, tasks[at]), length * (at + 1));
                }
                x.due("way", p -> p.way(0), 16 * length);
                x.due("critical", p -> p.critical(0), ALL);
            }
        }
        Check.of("Promise 24", "Returns the tail of a task; 0 if it is not there.");
        Run one = new Run();
        one.due("none there", p -> p.tail(0, 0), 0);
        one.call(p -> p.setTask(0, 15, 20, 0, 0));
        one.due("alone", p -> p.tail(0, 15), 20);
        one.due("not there", p -> p.tail(0, 14), 0);
        one.call(p -> p.setTask(0, 0, 1, 0, 0));
        one.call(p -> p.setNeed(0, 0, 15, true));
        one.due("needed", p -> p.tail(0, 15), 21);
        one.due("not needed", p -> p.tail(0, 0), 1);
        one.call(p -> p.removeTask(0, 0));
        one.due("removed", p -> p.tail(0, 0), 0);
        one.due("alone again", p -> p.tail(0, 15), 20);
    }

    private static void heads() {
        Check.of("Terms", "The head of a task is the greatest sum of lengths of a row of tasks, without it, of which the last"
                + " one is needed by it, and each one behind the first one needs the one ahead of it;");
        int[][] rows = {{0, 1, 2, 3, 4, 5, 6, 7, 8, 9, 10, 11, 12, 13, 14}, {14, 13, 12, 11, 10, 9, 8, 7, 6, 5, 4, 3, 2, 1, 0},
            {7, 8, 6, 9, 5, 10, 4, 11, 3, 12, 2, 13, 1, 14, 0}};
        for (int[] tasks : rows) {
            Run row = row(tasks, 20);
            row.call(p -> p.setTask(0, 15, 1, NONE, 0));
            for (int at : Check.numbers(0, 14)) {
                // The task 15 needs one of the row alone, so that its slack is the way less that one's head and both lengths.
                row.call(p -> p.setNeed(0, 15, tasks[at], true));
                row.due("behind task " + tasks[at], p -> p.slack(0, 15), at == 0 ? 0 : 300 - 20 * (15 - at) - 1);
                row.call(p -> p.setNeed(0, 15, tasks[at], false));
            }
        }
        Check.of("Terms", "0 without needs.");
        Run x = new Run();
        x.call(p -> p.setTask(0, 3, 20, NONE, 0));
        x.call(p -> p.setTask(0, 15, 1, NONE, 0));
        // The slack is the way, 20, less the head and the tail.
        x.due("without needs", p -> p.slack(0, 15), 19);
        x.due("without needs", p -> p.slack(0, 3), 0);
        x.call(p -> p.setTask(0, 0, 1, NONE, 0));
        x.call(p -> p.setNeed(0, 15, 0, true));
        x.due("with a need of a day", p -> p.slack(0, 15), 18);
        x.call(p -> p.setNeed(0, 15, 3, true));
        x.due("the greater one of both", p -> p.slack(0, 15), 0);
        x.due("the need of a day", p -> p.slack(0, 0), 19);
        x.call(p -> p.setNeed(0, 3, 0, true));
        x.due("over another one", p -> p.slack(0, 0), 0);
        x.due("way", p -> p.way(0), 22);
        x.call(p -> p.setNeed(0, 3, 0, false));
        x.call(p -> p.setNeed(0, 15, 3, false));
        x.call(p -> p.setNeed(0, 15, 0, false));
        x.due("without needs again", p -> p.slack(0, 15), 19);
    }

    private static void ways() {
        Check.of("Terms", "The way of a plan is its greatest tail, 0 without tasks.");
        Run x = new Run();
        x.due("without tasks", p -> p.way(0), 0);
        x.call(p -> p.setTask(0, 15, 1, NONE, 0));
        x.due("the least", p -> p.way(0), 1);
        x.call(p -> p.setTask(0, 0, 20, NONE, 0));
        x.due("the greater one", p -> p.way(0), 20);
        x.call(p -> p.removeTask(0, 0));
        x.call(p -> p.removeTask(0, 15));
        x.due("without tasks again", p -> p.way(0), 0);
        Check.of("Promise 27", "Returns the way of a plan.");
        x.due("without tasks", p -> p.way(0), 0);
        row(UP, 20).due("the greatest that can be", p -> p.way(0), 320);
    }

    private static void slacks() {
        Check.of("Terms", "The slack of a task is the way less its head and its tail; it is critical, if its slack is 0.");
        int[] tasks = {0, 1, 2, 3, 4, 5, 6, 7, 8, 9, 10, 11, 12, 13, 14};
        Run x = row(tasks, 20);
        x.call(p -> p.setTask(0, 15, 1, NONE, 0));
        x.due("the greatest slack", p -> p.slack(0, 15), 299);
        x.due("not critical", p -> p.critical(0), 32767);
        x.call(p -> p.setNeed(0, 15, 2, true));
        x.due("a slack of 39", p -> p.slack(0, 15), 300 - 260 - 1);
        x.call(p -> p.setNeed(0, 15, 1, true));
        x.due("a slack of 19", p -> p.slack(0, 15), 300 - 280 - 1);
        x.call(p -> p.setTask(0, 15, 19, NONE, 0));
        x.due("a slack of 1", p -> p.slack(0, 15), 1);
        x.due("not critical yet", p -> p.critical(0), 32767);
        x.call(p -> p.setTask(0, 15, 20, NONE, 0));
        x.due("no slack", p -> p.slack(0, 15), 0);
        x.due("critical too", p -> p.critical(0), ALL);
        x.call(p -> p.setNeed(0, 15, 0, true));
        x.due("critical alone at the end", p -> p.slack(0, 0), 0);
        x.due("way", p -> p.way(0), 320);
        Check.of("Promise 25", "Returns the slack of a task; NONE if it is not there.");
        Run none = new Run();
        none.due("none there", p -> p.slack(0, 15), NONE);
        none.call(p -> p.setTask(0, 15, 1, NONE, 0));
        none.due("there", p -> p.slack(0, 15), 0);
        none.due("not there", p -> p.slack(0, 0), NONE);
        none.call(p -> p.removeTask(0, 15));
        none.due("removed", p -> p.slack(0, 15), NONE);
        Check.of("Promise 26", "Returns the critical tasks of a plan: bit t stands for the task t.");
        none.due("none there", p -> p.critical(0), 0);
        for (int task : Check.numbers(0, 15)) {
            none.call(p -> p.setTask(0, task, 7, NONE, 0));
            none.due("all are", p -> p.critical(0), (2 << task) - 1);
        }
        none.call(p -> p.setTask(0, 9, 8, NONE, 0));
        none.due("the longest alone", p -> p.critical(0), Check.bits(9));
    }

    // ---- days

    private static void behindItsNeeds() {
        Check.of("Terms", "the first day is the earliest one behind the last days of all its needs");
        Run x = new Run();
        x.call(p -> p.setTask(0, 0, 1, NONE, 0));
        x.due("without needs", p -> p.firstDay(0, 0), 0);
        x.call(p -> p.setTask(0, 5, 1, NONE, 0));
        x.call(p -> p.setNeed(0, 0, 5, true));
        x.due("behind a day", p -> p.firstDay(0, 0), 1);
        x.call(p -> p.setTask(0, 15, 20, NONE, 0));
        x.call(p -> p.setNeed(0, 0, 15, true));
        x.due("behind the later one", p -> p.firstDay(0, 0), 20);
        x.call(p -> p.setNeed(0, 15, 5, true));
        x.due("behind both, one behind the other", p -> p.firstDay(0, 0), 21);
        x.call(p -> p.setTask(0, 5, 20, 0, 0));
        x.due("behind both, the first one longer", p -> p.firstDay(0, 0), 40);
        Run all = row(ZIGZAG, 20);
        for (int at : Check.numbers(0, 15)) {
            all.due("in a row", p -> p.firstDay(0, ZIGZAG[at]), 20 * (15 - at));
        }
        all.due("the end of the row", p -> p.lastDay(0), 319);
    }

    private static void heldOnEachDay() {
        Check.of("Terms", "from which on, if it has a crew, on each of its days this crew is held by the branch");
        Run x = withBranches(2);
        x.call(p -> p.setTask(0, 0, 20, 4, 0));
        x.due("held on all days", p -> p.firstDay(0, 0), 0);
        x.call(p -> p.lend(4, 1, 20, 20));
        x.due("held on just its days", p -> p.firstDay(0, 0), 0);
        x.call(p -> p.lend(4, 1, 19, 19));
        x.due("not on its last day", p -> p.firstDay(0, 0), 21);
        x.call(p -> p.lend(4, 1, 41, 41));
        x.due("again on just its days", p -> p.firstDay(0, 0), 21);
        x.call(p -> p.lend(4, 1, 21, 21));
        x.due("not on its first day, too few are left", p -> p.firstDay(0, 0), 42);
        x.call(p -> p.lend(4, 1, 50, 50));
        x.due("not on a day between", p -> p.firstDay(0, 0), 51);
        x.call(p -> p.setTask(0, 0, 19, 4, 0));
        x.due("a day shorter", p -> p.firstDay(0, 0), 0);
        x.call(p -> p.setTask(0, 0, 20, NONE, 0));
        x.due("without a crew", p -> p.firstDay(0, 0), 0);
        x.call(p -> p.setTask(0, 0, 20, 3, 0));
        x.due("with another crew", p -> p.firstDay(0, 0), 0);
        x.call(p -> p.setTask(1, 1, 1, 4, 0));
        x.due("the other branch", p -> p.firstDay(1, 1), 19);
        x.call(p -> p.setTask(1, 1, 3, 4, 0));
        x.due("the other branch has three days", p -> p.firstDay(1, 1), 19);
        x.call(p -> p.setTask(1, 1, 4, 4, 0));
        x.due("but not four", p -> p.firstDay(1, 1), NONE);
    }

    private static void noOtherTask() {
        Check.of("Terms", "and has no other task that has been placed;");
        Run x = new Run();
        x.call(p -> p.setTask(0, 0, 9, 2, 0));
        x.call(p -> p.setTask(0, 1, 4, 2, 0));
        x.call(p -> p.setTask(0, 2, 3, 2, 0));
        x.call(p -> p.setTask(0, 3, 4, 3, 0));
        x.call(p -> p.setTask(0, 4, 4, NONE, 0));
        int[] first = {0, 9, 13, 0, 0};
        for (int task : Check.numbers(0, 4)) {
            x.due("task " + task, p -> p.firstDay(0, task), first[task]);
        }
        // The task 5 ends on the day 19, so that the days behind the task 2 are free up to 19.
        x.call(p -> p.setTask(0, 5, 20, NONE, 0));
        x.call(p -> p.setTask(0, 6, 20, 2, 0));
        x.call(p -> p.setNeed(0, 6, 5, true));
        x.call(p -> p.setTask(0, 1, 7, 2, 0));
        x.due("behind its need", p -> p.firstDay(0, 6), 20);
        x.due("ahead of it", p -> p.firstDay(0, 1), 9);
        x.due("just up to it", p -> p.firstDay(0, 2), 16);
        x.call(p -> p.setTask(0, 2, 4, 2, 0));
        x.due("just up to it", p -> p.firstDay(0, 2), 16);
        x.call(p -> p.setTask(0, 2, 5, 2, 0));
        x.due("a day too long", p -> p.firstDay(0, 2), 40);
    }

    private static void atMost399() {
        Check.of("Terms", "all days are at most 399. If there is none such, it cannot be placed.");
        for (int length : new int[] {1, 2, 19, 20}) {
            Run x = withBranches(2);
            x.call(p -> p.lend(1, 1, 0, 399 - length));
            x.call(p -> p.setTask(0, 15, length, 1, 0));
            x.due("up to the day 399", p -> p.firstDay(0, 15), 400 - length);
            x.due("up to the day 399", p -> p.lastDay(0), 399);
            x.due("not left out", p -> p.leftOut(0), 0);
            x.due("by all orders", p -> p.lastDayByAll(0), 399);
            x.due("at work on the day 399", p -> p.taskOn(0, 1, 399), 15);
            x.due("not on the day ahead", p -> p.taskOn(0, 1, 399 - length), NONE);
            Run y = x.copy();
            y.call(p -> p.lend(1, 1, 400 - length, 400 - length));
            y.due("a day fewer", p -> p.firstDay(0, 15), NONE);
            y.due("a day fewer", p -> p.lastDay(0), NONE);
            y.due("left out", p -> p.leftOut(0), Check.bits(15));
            y.due("by all orders", p -> p.lastDayByAll(0), NONE);
            y.due("no work on the day 399", p -> p.taskOn(0, 1, 399), NONE);
            Run z = x.copy();
            for (int crew : new int[] {NONE, 2}) {
                z.call(p -> p.setTask(0, 0, 1, crew, 0));
                z.call(p -> p.setNeed(0, 0, 15, true));
                z.due("no day is left behind its need", p -> p.firstDay(0, 0), NONE);
                z.due("left out alone", p -> p.leftOut(0), 1);
                z.due("its need is placed", p -> p.lastDay(0), 399);
            }
        }
        atMost399WithoutCrew();
    }

    private static void atMost399WithoutCrew() {
        for (int length : new int[] {1, 2, 20}) {
            Run x = withBranches(2);
            x.call(p -> p.lend(1, 1, 0, 398 - length));
            x.call(p -> p.setTask(0, 15, 1, 1, 0));
            x.call(p -> p.setTask(0, 0, length, NONE, 0));
            x.call(p -> p.setNeed(0, 0, 15, true));
            x.due("without a crew up to the day 399", p -> p.firstDay(0, 0), 400 - length);
            x.due("without a crew up to the day 399", p -> p.lastDayByAll(0), 399);
            x.call(p -> p.lend(1, 1, 399 - length, 399 - length));
            x.due("without a crew, a day later", p -> p.firstDay(0, 0), NONE);
            x.due("without a crew, a day later", p -> p.leftOut(0), 1);
            x.due("without a crew, a day later", p -> p.lastDayByAll(0), NONE);
            x.due("the need alone", p -> p.lastDay(0), 400 - length);
        }
    }

    private static void greatestTail() {
        Check.of("Terms", "the next one is, of those that have not been tried, and whose needs are all placed, the one with the"
                + " greatest tail, of several the one with the lowest number;");
        Run x = new Run();
        for (int task : new int[] {15, 8, 3, 0}) {
            x.call(p -> p.setTask(0, task, 5, 0, 0));
        }
        int[] first = {0, 3, 8, 15};
        for (int at : Check.numbers(0, 3)) {
            x.due("the same tail", p -> p.firstDay(0, first[at]), 5 * at);
        }
        x.call(p -> p.setTask(0, 15, 6, 0, 0));
        x.due("a tail that is a day greater", p -> p.firstDay(0, 15), 0);
        x.due("then the lowest one", p -> p.firstDay(0, 0), 6);
        x.call(p -> p.setTask(0, 7, 1, NONE, 0));
        x.call(p -> p.setNeed(0, 7, 8, true));
        x.due("a tail that is as great, with a lower number", p -> p.firstDay(0, 8), 0);
        x.due("then that of the greater number", p -> p.firstDay(0, 15), 5);
        x.call(p -> p.setNeed(0, 7, 8, false));
        x.call(p -> p.setTask(0, 15, 20, 0, 0));
        x.call(p -> p.setNeed(0, 15, 7, true));
        x.due("its need is placed first", p -> p.firstDay(0, 15), 1);
        x.due("then there is no room ahead of it", p -> p.firstDay(0, 0), 21);
        x.call(p -> p.setNeed(0, 15, 3, true));
        x.due("the need with the greater tail", p -> p.firstDay(0, 3), 0);
        x.due("behind both needs", p -> p.firstDay(0, 15), 5);
    }

    private static void leftOutWithThoseThatNeedIt() {
        Check.of("Terms", "one that cannot be placed is left out, and so are all that need it.");
        Run x = withBranches(2);
        x.call(p -> p.give(4, 1));
        for (int task : Check.numbers(0, 15)) {
            x.call(p -> p.setTask(0, task, 1, 0, 0));
        }
        x.due("none", p -> p.leftOut(0), 0);
        for (int task : Check.numbers(1, 15)) {
            x.call(p -> p.setNeed(0, task, task - 1, true));
        }
        x.due("none", p -> p.leftOut(0), 0);
        for (int task = 15; task >= 0; task--) {
            int of = task;
            x.call(p -> p.setTask(0, of, 1, 4, 0));
            x.due("from task " + of + " on", p -> p.leftOut(0), ALL - (1 << of) + 1);
            x.due("the last one placed", p -> p.lastDay(0), of - 1);
            x.due("left out", p -> p.firstDay(0, 15), NONE);
            x.call(p -> p.setTask(0, of, 1, 3, 0));
            x.due("none", p -> p.leftOut(0), 0);
        }
        x.call(p -> p.setTask(0, 0, 1, 4, 0));
        x.due("all", p -> p.leftOut(0), ALL);
        x.due("no day", p -> p.lastDay(0), NONE);
        x.due("all in the other branch", p -> p.leftOut(1), 0);
        Check.of("Promise 29", "Returns the tasks that are left out by the rule: bit t stands for the task t.");
        x.call(p -> p.setNeed(0, 1, 0, false));
        x.due("task 0 alone", p -> p.leftOut(0), 1);
        x.call(p -> p.setTask(0, 15, 1, 4, 0));
        x.due("tasks 0 and 15", p -> p.leftOut(0), Check.bits(0, 15));
        x.due("of an empty plan", p -> p.leftOut(1), 0);
        Check.of("Promise 28", "Returns the first day of a task by the rule; NONE if it is not there, or is left out.");
        x.due("left out", p -> p.firstDay(0, 0), NONE);
        x.due("left out", p -> p.firstDay(0, 15), NONE);
        x.due("placed on the day 0", p -> p.firstDay(0, 1), 0);
        x.due("not there", p -> p.firstDay(1, 0), NONE);
        x.due("not there", p -> p.firstDay(1, 15), NONE);
    }

    private static void byAnOrder() {
        Check.of("Terms", "By an order of all tasks, in which each comes behind its needs, they are placed in this order.");
        Run x = withBranches(2);
        x.call(p -> p.give(0, 1));
        x.call(p -> p.lend(0, 0, 0, 6));
        x.call(p -> p.lend(0, 0, 50, 56));
        // The rule takes the longest first; just 5 and 2 days, and 4 and 3 days, fill the seven days each.
        int[] lengths = {5, 4, 3, 2};
        for (int task : Check.numbers(0, 3)) {
            x.call(p -> p.setTask(0, task, lengths[task], 0, 0));
        }
        x.due("by the rule", p -> p.lastDay(0), 56);
        x.due("by all orders", p -> p.lastDayByAll(0), 56);
        x.call(p -> p.setTask(0, 0, 3, 0, 0));
        x.call(p -> p.setTask(0, 1, 3, 0, 0));
        x.call(p -> p.setTask(0, 2, 2, 0, 0));
        x.due("by the rule", p -> p.lastDay(0), 53);
        x.due("by all orders, 3 and 2 and 2 days first", p -> p.lastDayByAll(0), 52);
        x.call(p -> p.setNeed(0, 2, 0, true));
        x.call(p -> p.setNeed(0, 2, 1, true));
        x.due("not behind its needs by that order", p -> p.lastDayByAll(0), 53);
        x.call(p -> p.setNeed(0, 2, 1, false));
        x.due("behind its need by that order", p -> p.lastDayByAll(0), 52);

        // Only if the task 2 has the crew ahead of the task 1, of which both need the task 0, the task 4 begins early.
        Run y = new Run();
        y.call(p -> p.setTask(0, 0, 1, NONE, 0));
        y.call(p -> p.setTask(0, 1, 3, 0, 0));
        y.call(p -> p.setTask(0, 2, 3, 0, 0));
        y.call(p -> p.setTask(0, 4, 20, NONE, 0));
        y.call(p -> p.setNeed(0, 1, 0, true));
        y.call(p -> p.setNeed(0, 2, 0, true));
        y.call(p -> p.setNeed(0, 4, 2, true));
        y.due("by the order 0, 2, 1, 4", p -> p.lastDayByAll(0), 23);
        y.due("the same again", p -> p.lastDayByAll(0), 23);
        y.call(p -> p.setNeed(0, 2, 1, true));
        y.due("by the order 0, 1, 2, 4", p -> p.lastDayByAll(0), 26);
    }

    private static void lastDays() {
        Check.of("Terms", "The plan ends on the last day of all tasks that are placed.");
        Run x = withBranches(2);
        x.call(p -> p.setTask(0, 0, 20, NONE, 0));
        x.call(p -> p.setTask(0, 15, 1, NONE, 0));
        x.due("the longer one", p -> p.lastDay(0), 19);
        x.call(p -> p.setTask(0, 0, 1, NONE, 0));
        x.due("the first day", p -> p.lastDay(0), 0);
        x.call(p -> p.setTask(0, 0, 20, 2, 0));
        x.call(p -> p.give(2, 1));
        x.due("of those that are placed", p -> p.lastDay(0), 0);
        Check.of("Promise 30", "Returns the day on which a plan ends by the rule; NONE without tasks that are placed.");
        x.call(p -> p.removeTask(0, 15));
        x.due("without one that is placed", p -> p.lastDay(0), NONE);
        x.call(p -> p.removeTask(0, 0));
        x.due("without tasks", p -> p.lastDay(0), NONE);
        x.due("without tasks", p -> p.lastDay(1), NONE);
        x.call(p -> p.setTask(0, 0, 1, NONE, 0));
        x.due("with one", p -> p.lastDay(0), 0);
    }

    private static void sixTasks() {
        Check.of("Promise 31", "Throws `IllegalStateException` if there are more than 6 tasks");
        Run x = withBranches(2);
        for (int count : Check.numbers(1, 6)) {
            x.call(p -> p.setTask(0, 16 - count, 20, 0, 0));
            x.due(count + " tasks", p -> p.lastDayByAll(0), 20 * count - 1);
        }
        for (int count : Check.numbers(7, 16)) {
            x.call(p -> p.setTask(0, 16 - count, 20, NONE, 0));
            x.fails(count + " tasks", Check.BAD_STATE, p -> p.lastDayByAll(0));
        }
        x.due("of another branch", p -> p.lastDayByAll(1), NONE);
        x.fails("no such branch", Check.NO_BRANCH, p -> p.lastDayByAll(2));
        for (int task : Check.numbers(0, 8)) {
            x.call(p -> p.removeTask(0, task));
        }
        x.fails("seven tasks, none of them from 0 to 8", Check.BAD_STATE, p -> p.lastDayByAll(0));
        x.call(p -> p.removeTask(0, 15));
        x.due("six again", p -> p.lastDayByAll(0), 99);
    }

    private static void byAllOrNone() {
        Check.of("Promise 31", "Returns the earliest day on which a plan ends by some order by which all tasks can be placed;"
                + " NONE if there is none such, or no task.");
        Run x = withBranches(2);
        x.due("no task", p -> p.lastDayByAll(0), NONE);
        x.call(p -> p.setTask(0, 3, 1, NONE, 0));
        x.due("one task of a day", p -> p.lastDayByAll(0), 0);
        x.call(p -> p.give(0, 1));
        x.call(p -> p.lend(0, 0, 396, 399));
        x.call(p -> p.setTask(0, 5, 2, 0, 0));
        x.call(p -> p.setTask(0, 6, 2, 0, 0));
        x.due("both just fit", p -> p.lastDayByAll(0), 399);
        x.call(p -> p.setTask(0, 7, 1, 0, 0));
        x.due("one does not fit, by no order", p -> p.lastDayByAll(0), NONE);
        x.due("by the rule the others are placed", p -> p.lastDay(0), 399);
        x.call(p -> p.removeTask(0, 7));
        x.call(p -> p.lend(0, 1, 397, 397));
        x.due("neither fits beside the other", p -> p.lastDayByAll(0), NONE);
        x.call(p -> p.lend(0, 0, 10, 11));
        x.due("both fit", p -> p.lastDayByAll(0), 399);
        x.call(p -> p.lend(0, 0, 12, 13));
        x.due("earlier", p -> p.lastDayByAll(0), 13);
        // By the rule the task 8, with the greater tail, takes the only day ahead of the days of the task 9.
        Run y = withBranches(2);
        y.call(p -> p.give(0, 1));
        y.call(p -> p.lend(0, 0, 0, 2));
        y.call(p -> p.lend(0, 0, 7, 8));
        y.call(p -> p.setTask(0, 8, 2, 0, 0));
        y.call(p -> p.setTask(0, 9, 3, 0, 0));
        y.call(p -> p.setTask(0, 10, 9, NONE, 0));
        y.call(p -> p.setNeed(0, 10, 8, true));
        y.due("left out by the rule", p -> p.leftOut(0), Check.bits(9));
        y.due("by the rule", p -> p.lastDay(0), 10);
        y.due("all are placed by another order", p -> p.lastDayByAll(0), 17);
    }

    private static void taskOn() {
        Check.of("Promise 32", "Returns the task of a crew on a day by the rule in a branch; NONE if it has none.");
        Run x = withBranches(2);
        x.due("no task", p -> p.taskOn(0, 0, 0), NONE);
        x.call(p -> p.lend(4, 1, 0, 378));
        x.call(p -> p.lend(4, 1, 399, 399));
        x.call(p -> p.setTask(0, 15, 19, 4, 0));
        x.call(p -> p.setTask(0, 0, 1, 4, 0));
        int[][] due = {{378, NONE}, {379, 15}, {380, 15}, {397, 15}, {398, 0}, {399, NONE}, {0, NONE}};
        for (int[] day : due) {
            x.due("day " + day[0], p -> p.taskOn(0, 4, day[0]), day[1]);
            x.due("another crew", p -> p.taskOn(0, 3, day[0]), NONE);
            x.due("another branch", p -> p.taskOn(1, 4, day[0]), NONE);
        }
        x.call(p -> p.setTask(0, 0, 1, 0, 0));
        x.due("the first day", p -> p.taskOn(0, 0, 0), 0);
        x.due("the day behind it", p -> p.taskOn(0, 0, 1), NONE);
        x.call(p -> p.setTask(0, 0, 1, NONE, 0));
        x.due("without a crew", p -> p.taskOn(0, 0, 0), NONE);
        x.call(p -> p.setTask(0, 15, 20, 4, 0));
        x.due("on all days that are held", p -> p.taskOn(0, 4, 398), 15);
        x.call(p -> p.lend(4, 1, 379, 379));
        x.due("left out", p -> p.leftOut(0), Check.bits(15));
        x.due("one that is left out", p -> p.taskOn(0, 4, 398), NONE);
    }
}
