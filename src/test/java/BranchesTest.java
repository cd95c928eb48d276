/** Promises 11 to 20: the branches. */
public final class BranchesTest {
    private static final int NONE = PlanBranches.NONE;
    private static final int OWN = PlanBranches.OWN;
    private static final int PARENT = PlanBranches.PARENT;
    private static final int CLASH = PlanBranches.CLASH;
    private static final int MISSING = PlanBranches.MISSING;
    private static final int RING = PlanBranches.RING;
    private static final int BUDGET = PlanBranches.BUDGET;
    private static final int STUCK = PlanBranches.STUCK;

    public static void main(String[] args) {
        begin();
        beginAtMost();
        beginWrong();
        setBudget();
        resolve();
        resolveWrong();
        resolutionsAreForgotten();
        sameTasks();
        clashesOfTasksNotThere();
        clashesOfNeedsOnly();
        mixedParts();
        clashesOfParts();
        mixedNeeds();
        resolvedSides();
        clash();
        missing();
        ring();
        budget();
        stuck();
        firstReason();
        merge();
        update();
        updateThenMerge();
        historyBehindJoining();
        ofGrandchildren();
        wrong();
        Check.end();
    }

    /** A branch 0 with the tasks 0, 1 and 2, of which 1 needs 0, and a branch 1 begun from it; both have days of all crews. */
    private static Run twoBranches() {
        Run x = twoBranchesWithoutLoans();
        lendAll(x, 1, 200);
        return x;
    }

    private static void lendAll(Run x, int branch, int from) {
        for (int crew : Check.numbers(0, 4)) {
            x.call(p -> p.lend(crew, branch, from, 399));
        }
    }

    private static Run twoBranchesWithoutLoans() {
        Run x = new Run();
        x.call(p -> p.setTask(0, 0, 3, 0, 10));
        x.call(p -> p.setTask(0, 1, 2, 1, 5));
        x.call(p -> p.setTask(0, 2, 4, NONE, 1));
        x.call(p -> p.setNeed(0, 1, 0, true));
        x.due("11 begun", p -> p.begin(0), 1);
        return x;
    }

    private static void begin() {
        Run x = twoBranches();
        x.due("12 two", p -> p.branches(), 2);
        x.due("13 parent", p -> p.parent(1), 0);
        x.due("13 no parent", p -> p.parent(0), NONE);
        x.due("11 tasks", p -> p.tasks(1), 7);
        x.due("11 length", p -> p.length(1, 0), 3);
        x.due("11 crew", p -> p.crew(1, 1), 1);
        x.due("11 needs", p -> p.needs(1, 1), 1);
        x.due("11 cost", p -> p.cost(1), 44);
        x.call(p -> p.setBudget(1, 17));
        x.call(p -> p.setTask(1, 7, 1, 0, 0));
        x.due("11 of another branch", p -> p.begin(1), 2);
        x.due("11 its plan", p -> p.tasks(2), 135);
        x.due("11 the parent's plan", p -> p.tasks(0), 7);
        x.due("13 its parent", p -> p.parent(2), 1);
        x.due("14 budget of a new branch", p -> p.setBudget(2, 3), 1000000);
        x.due("12 three", p -> p.branches(), 3);
        x.fails("5 begun from it", Check.BAD_STATE, p -> p.undo(1));
        x.call(p -> p.setTask(0, 7, 1, 0, 0));
        x.call(p -> p.begin(1));
        x.due("5 begun from another one", p -> p.undo(0), 0);
    }

    private static void beginAtMost() {
        Run x = new Run();
        for (int branch : Check.numbers(1, 7)) {
            x.due("11 number", p -> p.begin(branch / 2), branch);
            x.due("12 count", p -> p.branches(), branch + 1);
        }
        for (int branch : Check.numbers(1, 7)) {
            x.due("13 parent", p -> p.parent(branch), branch / 2);
        }
        x.call(p -> p.setTask(0, 0, 1, 0, 0));
        x.fails("11 a ninth", Check.BAD_STATE, p -> p.begin(0));
        x.fails("11 a ninth from the last", Check.BAD_STATE, p -> p.begin(7));
        x.fails("11 from none first", Check.NO_BRANCH, p -> p.begin(8));
        x.due("5 not begun", p -> p.undo(0), 0);
    }

    private static void beginWrong() {
        Run x = twoBranches();
        x.fails("11 from -1", Check.NO_BRANCH, p -> p.begin(-1));
        x.fails("11 from 2", Check.NO_BRANCH, p -> p.begin(2));
        x.fails("11 from the least", Check.NO_BRANCH, p -> p.begin(Integer.MIN_VALUE));
        x.due("12 still two", p -> p.branches(), 2);
    }

    private static void setBudget() {
        Run x = twoBranches();
        x.due("14 before", p -> p.setBudget(0, 0), 1000000);
        x.due("14 before", p -> p.setBudget(0, 1000000), 0);
        x.due("14 before", p -> p.setBudget(0, 43), 1000000);
        x.due("14 the plan may cost more", p -> p.cost(0), 44);
        x.due("14 and more", p -> p.setTask(0, 0, 20, 0, 1000), true);
        x.due("14 of another branch", p -> p.setBudget(1, 6), 1000000);
        x.due("14 the same", p -> p.setBudget(0, 43), 43);
        x.due("14 no change of the plan", p -> p.undo(0), 0);
        x.fails("14 branch 2", Check.NO_BRANCH, p -> p.setBudget(2, -1));
        x.fails("14 branch -1", Check.NO_BRANCH, p -> p.setBudget(-1, 0));
        x.fails("14 budget -1", Check.BAD_ARGUMENT, p -> p.setBudget(0, -1));
        x.fails("14 budget 1000001", Check.BAD_ARGUMENT, p -> p.setBudget(1, 1000001));
    }

    private static void resolve() {
        Run x = twoBranches();
        x.due("15 not resolved", p -> p.resolve(1, 15, OWN), NONE);
        x.due("15 OWN", p -> p.resolve(1, 15, PARENT), OWN);
        x.due("15 PARENT", p -> p.resolve(1, 15, PARENT), PARENT);
        x.due("15 another task", p -> p.resolve(1, 0, NONE), NONE);
        x.due("15 not any more", p -> p.resolve(1, 15, NONE), PARENT);
        x.due("15 not resolved again", p -> p.resolve(1, 15, NONE), NONE);
        x.call(p -> p.resolve(1, 2, OWN));
        x.call(p -> p.begin(1));
        x.due("15 of a new branch", p -> p.resolve(2, 2, PARENT), NONE);
        x.due("15 still of the first", p -> p.resolve(1, 2, OWN), OWN);
    }

    private static void resolveWrong() {
        Run x = twoBranches();
        x.fails("15 branch 2", Check.NO_BRANCH, p -> p.resolve(2, 16, 2));
        x.fails("15 branch -1", Check.NO_BRANCH, p -> p.resolve(-1, 0, 0));
        x.fails("15 task -1", Check.BAD_ARGUMENT, p -> p.resolve(1, -1, OWN));
        x.fails("15 task 16", Check.BAD_ARGUMENT, p -> p.resolve(1, 16, OWN));
        x.fails("15 side -2", Check.BAD_ARGUMENT, p -> p.resolve(1, 0, -2));
        x.fails("15 side 2", Check.BAD_ARGUMENT, p -> p.resolve(1, 0, 2));
        x.fails("15 side first", Check.BAD_ARGUMENT, p -> p.resolve(0, 0, 2));
        x.fails("15 task first", Check.BAD_ARGUMENT, p -> p.resolve(0, 16, 0));
        x.fails("15 branch 0", Check.BAD_STATE, p -> p.resolve(0, 0, OWN));
        x.fails("15 branch 0, NONE", Check.BAD_STATE, p -> p.resolve(0, 0, NONE));
    }

    private static void resolutionsAreForgotten() {
        for (int merges : Check.numbers(0, 1)) {
            Run x = twoBranches();
            x.call(p -> p.begin(1));
            lendAll(x, 2, 300);
            x.call(p -> p.resolve(1, 0, PARENT));
            x.call(p -> p.resolve(1, 15, OWN));
            x.call(p -> p.resolve(2, 3, PARENT));
            x.due("19 and 20", p -> merges == 1 ? p.merge(1) : p.update(1), 0);
            x.due("15 forgotten", p -> p.resolve(1, 0, NONE), NONE);
            x.due("15 forgotten", p -> p.resolve(1, 15, NONE), NONE);
            x.due("15 not of a child", p -> p.resolve(2, 3, PARENT), PARENT);
            x.call(p -> p.resolve(1, 4, OWN));
            x.call(p -> p.merge(2));
            x.due("15 not of the parent", p -> p.resolve(1, 4, NONE), OWN);
        }
    }

    private static void sameTasks() {
        Run x = twoBranches();
        x.call(p -> p.setTask(0, 0, 9, 0, 10));
        x.call(p -> p.setTask(1, 1, 9, 1, 5));
        x.call(p -> p.setTask(0, 2, 4, 3, 7));
        x.call(p -> p.setTask(1, 2, 4, 3, 7));
        x.call(p -> p.setTask(0, 5, 1, 0, 0));
        x.call(p -> p.setTask(1, 6, 1, 0, 0));
        x.call(p -> p.setTask(0, 7, 8, 2, 6));
        x.call(p -> p.setTask(1, 7, 8, 2, 6));
        x.due("16 no clash", p -> p.clashes(1), 0);
        x.due("17 no reason", p -> p.reason(1, true), 0);
        x.due("18 no reason", p -> p.reasonTask(1, true), NONE);
        x.due("19 others in the parent", p -> p.merge(1), 2);
        x.due("19 from the parent", p -> p.length(0, 0), 9);
        x.due("19 from the branch", p -> p.length(0, 1), 9);
        x.due("19 the same in both", p -> p.crew(0, 2), 3);
        x.due("19 all new ones", p -> p.tasks(0), Check.bits(0, 1, 2, 5, 6, 7));
        x.due("19 the branch too", p -> p.tasks(1), Check.bits(0, 1, 2, 5, 6, 7));
        x.due("19 the branch too", p -> p.length(1, 0), 9);
        x.call(p -> p.removeTask(1, 5));
        x.call(p -> p.removeTask(0, 6));
        x.call(p -> p.removeTask(1, 7));
        x.call(p -> p.removeTask(0, 7));
        x.due("16 removed", p -> p.clashes(1), 0);
        x.due("20 one removed", p -> p.update(1), 1);
        x.due("20 removed", p -> p.tasks(1), 7);
        x.due("20 the parent stays", p -> p.tasks(0), Check.bits(0, 1, 2, 5));
    }

    private static void clashesOfTasksNotThere() {
        Run x = twoBranches();
        x.call(p -> p.removeTask(0, 2));
        x.call(p -> p.setTask(1, 2, 5, NONE, 1));
        x.call(p -> p.setTask(0, 8, 5, 0, 0));
        x.call(p -> p.setTask(1, 8, 6, 0, 0));
        x.call(p -> p.setTask(0, 9, 5, 0, 0));
        x.call(p -> p.removeTask(1, 1));
        x.call(p -> p.setNeed(0, 1, 9, true));
        x.due("16 not there in one", p -> p.clashes(1), Check.bits(1, 2, 8));
        x.call(p -> p.resolve(1, 2, OWN));
        x.due("16 resolved or not", p -> p.clashes(1), Check.bits(1, 2, 8));
        x.due("16 branch 0", p -> p.clashes(0), 0);
        x.due("18 the lowest", p -> p.reasonTask(1, false), 1);
    }

    /** One that is not in the base clashes also if it differs in its needs alone. */
    private static void clashesOfNeedsOnly() {
        Run x = twoBranches();
        x.call(p -> p.setTask(0, 8, 5, 0, 0));
        x.call(p -> p.setTask(1, 8, 5, 0, 0));
        x.due("16 the same", p -> p.clashes(1), 0);
        x.call(p -> p.setNeed(0, 8, 2, true));
        x.due("16 other needs", p -> p.clashes(1), 256);
        x.call(p -> p.setNeed(1, 8, 2, true));
        x.due("16 the same needs", p -> p.clashes(1), 0);
    }

    private static void mixedParts() {
        Run x = new Run();
        for (int task : Check.numbers(0, 5)) {
            x.call(p -> p.setTask(0, task, 3, 0, 10));
        }
        x.call(p -> p.begin(0));
        lendAll(x, 1, 200);
        x.call(p -> p.setTask(0, 0, 5, 0, 10));
        x.call(p -> p.setTask(1, 0, 3, 2, 10));
        x.call(p -> p.setTask(0, 1, 3, 0, 99));
        x.call(p -> p.setTask(1, 1, 7, 0, 10));
        x.call(p -> p.setTask(0, 2, 3, NONE, 10));
        x.call(p -> p.setTask(1, 2, 3, 0, 8));
        x.call(p -> p.setTask(0, 3, 6, NONE, 8));
        x.call(p -> p.setTask(1, 3, 6, NONE, 9));
        x.call(p -> p.setTask(1, 3, 6, NONE, 10));
        x.call(p -> p.setTask(0, 4, 4, 0, 11));
        x.call(p -> p.setTask(1, 4, 4, 1, 10));
        x.due("16 none clashes", p -> p.clashes(1), 0);
        x.due("20 others in the branch", p -> p.update(1), 5);
        int[][] due = {{5, 2}, {7, 0}, {3, NONE}, {6, NONE}, {4, 1}, {3, 0}};
        for (int task : Check.numbers(0, 5)) {
            x.due("20 length of " + task, p -> p.length(1, task), due[task][0]);
            x.due("20 crew of " + task, p -> p.crew(1, task), due[task][1]);
        }
        x.due("20 cost", p -> p.cost(1), 50 + 7 * 99 + 24 + 48 + 44 + 30);
        x.due("19 others in the parent", p -> p.merge(1), 4);
        x.due("19 cost", p -> p.cost(0), 50 + 7 * 99 + 24 + 48 + 44 + 30);
    }

    private static void clashesOfParts() {
        Run x = new Run();
        for (int task : Check.numbers(0, 5)) {
            x.call(p -> p.setTask(0, task, 3, 0, 10));
        }
        x.call(p -> p.begin(0));
        lendAll(x, 1, 200);
        x.call(p -> p.setTask(0, 0, 4, 0, 10));
        x.call(p -> p.setTask(1, 0, 5, 0, 10));
        x.call(p -> p.setTask(0, 1, 3, 1, 10));
        x.call(p -> p.setTask(1, 1, 3, NONE, 10));
        x.call(p -> p.setTask(0, 2, 3, 0, 11));
        x.call(p -> p.setTask(1, 2, 3, 0, 12));
        x.call(p -> p.setTask(0, 3, 4, 0, 11));
        x.call(p -> p.setTask(1, 3, 4, 0, 12));
        x.call(p -> p.setTask(0, 4, 4, 1, 10));
        x.call(p -> p.setTask(1, 4, 4, 1, 11));
        x.due("16 each part clashes", p -> p.clashes(1), Check.bits(0, 1, 2, 3));
        x.due("17 CLASH", p -> p.reason(1, true), CLASH);
        x.due("18 the lowest", p -> p.reasonTask(1, true), 0);
        x.call(p -> p.resolve(1, 0, PARENT));
        x.due("18 the lowest not resolved", p -> p.reasonTask(1, true), 1);
        x.call(p -> p.resolve(1, 1, OWN));
        x.call(p -> p.resolve(1, 3, OWN));
        x.due("18 the only one", p -> p.reasonTask(1, false), 2);
        x.fails("19 CLASH", Check.BAD_STATE, p -> p.merge(1));
        x.fails("20 CLASH", Check.BAD_STATE, p -> p.update(1));
        x.call(p -> p.resolve(1, 2, PARENT));
        x.due("17 none", p -> p.reason(1, true), 0);
        x.due("20 others in the branch", p -> p.update(1), 2);
        x.due("20 PARENT", p -> p.length(1, 0), 4);
        x.due("20 OWN", p -> p.crew(1, 1), NONE);
        x.due("20 costs", p -> p.cost(1), 40 + 30 + 33 + 48 + 44 + 30);
    }

    private static void mixedNeeds() {
        Run x = new Run();
        for (int task : Check.numbers(0, 8)) {
            x.call(p -> p.setTask(0, task, 1, NONE, 0));
        }
        for (int need : new int[] {1, 2, 3, 4}) {
            x.call(p -> p.setNeed(0, 0, need, true));
        }
        x.call(p -> p.begin(0));
        x.call(p -> p.setNeed(0, 0, 1, false));
        x.call(p -> p.setNeed(0, 0, 2, false));
        x.call(p -> p.setNeed(1, 0, 2, false));
        x.call(p -> p.setNeed(1, 0, 3, false));
        x.call(p -> p.setNeed(0, 0, 5, true));
        x.call(p -> p.setNeed(0, 0, 6, true));
        x.call(p -> p.setNeed(1, 0, 6, true));
        x.call(p -> p.setNeed(1, 0, 7, true));
        x.due("16 needs never clash", p -> p.clashes(1), 0);
        x.due("19 one task", p -> p.merge(1), 1);
        x.due("19 needs", p -> p.needs(0, 0), Check.bits(4, 5, 6, 7));
        x.due("19 needs of the branch", p -> p.needs(1, 0), Check.bits(4, 5, 6, 7));
    }

    private static void resolvedSides() {
        for (int side : new int[] {OWN, PARENT}) {
            Run x = twoBranches();
            x.call(p -> p.setTask(0, 1, 7, 2, 5));
            x.call(p -> p.setNeed(0, 1, 2, true));
            x.call(p -> p.setTask(1, 1, 8, 1, 6));
            x.call(p -> p.removeTask(1, 2));
            x.call(p -> p.setTask(1, 2, 6, NONE, 1));
            x.call(p -> p.setTask(0, 2, 4, 4, 1));
            x.call(p -> p.setTask(0, 9, 1, 0, 0));
            x.call(p -> p.resolve(1, 1, side));
            x.call(p -> p.resolve(1, 2, PARENT));
            x.call(p -> p.resolve(1, 9, OWN));
            x.due("16 that one", p -> p.clashes(1), 2);
            x.due("17 resolved", p -> p.reason(1, false), 0);
            x.due("20 others", p -> p.update(1), side == OWN ? 2 : 3);
            x.due("20 as a whole: length", p -> p.length(1, 1), side == OWN ? 8 : 7);
            x.due("20 as a whole: crew", p -> p.crew(1, 1), side == OWN ? 1 : 2);
            x.due("20 as a whole: needs", p -> p.needs(1, 1), side == OWN ? 1 : 5);
            x.due("20 as a whole: cost", p -> p.cost(1), 30 + (side == OWN ? 48 : 35) + 6);
            x.due("20 does not clash, though resolved", p -> p.crew(1, 2), 4);
            x.due("20 does not clash, though resolved", p -> p.length(1, 2), 6);
            x.due("20 does not clash, though resolved", p -> p.length(1, 9), 1);
        }
    }

    private static void clash() {
        Run x = twoBranches();
        x.call(p -> p.removeTask(1, 2));
        x.call(p -> p.setTask(0, 2, 4, NONE, 2));
        x.due("17 CLASH", p -> p.reason(1, true), CLASH);
        x.due("17 CLASH", p -> p.reason(1, false), CLASH);
        x.due("18 CLASH", p -> p.reasonTask(1, true), 2);
        x.call(p -> p.resolve(1, 2, OWN));
        x.due("17 resolved", p -> p.reason(1, true), 0);
        x.call(p -> p.resolve(1, 2, NONE));
        x.due("17 not any more", p -> p.reason(1, true), CLASH);
        x.call(p -> p.resolve(1, 2, OWN));
        x.due("19 removes it", p -> p.merge(1), 1);
        x.due("19 removed", p -> p.tasks(0), 3);
    }

    private static void missing() {
        Run x = twoBranches();
        x.call(p -> p.removeTask(0, 2));
        x.call(p -> p.setTask(1, 5, 1, NONE, 0));
        x.call(p -> p.setTask(1, 6, 1, NONE, 0));
        x.call(p -> p.setNeed(1, 6, 2, true));
        x.call(p -> p.setNeed(1, 5, 2, true));
        x.call(p -> p.setNeed(1, 0, 5, true));
        x.due("16 no clash", p -> p.clashes(1), 0);
        x.due("17 MISSING", p -> p.reason(1, true), MISSING);
        x.due("17 MISSING", p -> p.reason(1, false), MISSING);
        x.due("18 that needs it itself", p -> p.reasonTask(1, true), 5);
        x.fails("19 MISSING", Check.BAD_STATE, p -> p.merge(1));
        x.fails("20 MISSING", Check.BAD_STATE, p -> p.update(1));
        x.call(p -> p.setNeed(1, 5, 2, false));
        x.due("18 the other", p -> p.reasonTask(1, false), 6);
        x.call(p -> p.setNeed(1, 6, 2, false));
        x.due("17 none", p -> p.reason(1, true), 0);
    }

    private static void ring() {
        Run x = twoBranches();
        x.call(p -> p.setTask(0, 4, 1, NONE, 0));
        x.call(p -> p.update(1));
        x.call(p -> p.setNeed(0, 2, 1, true));
        x.call(p -> p.setNeed(1, 1, 4, true));
        x.call(p -> p.setNeed(1, 4, 2, true));
        x.due("16 no clash", p -> p.clashes(1), 0);
        x.due("17 RING", p -> p.reason(1, true), RING);
        x.due("17 RING", p -> p.reason(1, false), RING);
        x.due("18 in the ring, not ahead of it", p -> p.reasonTask(1, true), 1);
        x.fails("19 RING", Check.BAD_STATE, p -> p.merge(1));
        x.fails("20 RING", Check.BAD_STATE, p -> p.update(1));
        x.call(p -> p.setNeed(1, 0, 4, true));
        x.due("18 still not behind it", p -> p.reasonTask(1, false), 0);
        x.call(p -> p.setNeed(1, 0, 4, false));
        x.call(p -> p.setNeed(1, 1, 0, false));
        x.call(p -> p.setTask(1, 0, 3, 0, 11));
        x.call(p -> p.setNeed(1, 0, 1, true));
        x.due("18 that only needs the ring", p -> p.reasonTask(1, false), 1);
        x.call(p -> p.setNeed(1, 4, 2, false));
        x.due("17 none", p -> p.reason(1, true), 0);
    }

    private static void budget() {
        Run x = twoBranches();
        x.call(p -> p.setTask(1, 3, 1, NONE, 6));
        x.call(p -> p.setBudget(0, 49));
        x.call(p -> p.setBudget(1, 50));
        x.due("17 BUDGET of the parent", p -> p.reason(1, true), BUDGET);
        x.due("18 BUDGET", p -> p.reasonTask(1, true), NONE);
        x.due("17 as much as the budget", p -> p.reason(1, false), 0);
        x.fails("19 BUDGET", Check.BAD_STATE, p -> p.merge(1));
        x.call(p -> p.setBudget(0, 50));
        x.call(p -> p.setBudget(1, 49));
        x.due("17 BUDGET of the branch", p -> p.reason(1, false), BUDGET);
        x.due("18 BUDGET", p -> p.reasonTask(1, false), NONE);
        x.fails("20 BUDGET", Check.BAD_STATE, p -> p.update(1));
        x.due("17 as much as the budget", p -> p.reason(1, true), 0);
        x.due("19 merged", p -> p.merge(1), 1);
        x.call(p -> p.setBudget(0, 0));
        x.due("17 BUDGET though nothing changes", p -> p.reason(1, true), BUDGET);
        x.call(p -> p.begin(0));
        lendAll(x, 2, 300);
        x.due("14 budget of its own", p -> p.reason(2, false), 0);
    }

    private static void stuck() {
        Run x = twoBranchesWithoutLoans();
        x.call(p -> p.give(0, 1));
        x.due("17 STUCK in the parent", p -> p.reason(1, true), STUCK);
        x.due("18 STUCK in the parent", p -> p.reasonTask(1, true), 0);
        x.due("17 STUCK in the branch", p -> p.reason(1, false), STUCK);
        x.due("18 STUCK in the branch", p -> p.reasonTask(1, false), 1);
        x.fails("19 STUCK", Check.BAD_STATE, p -> p.merge(1));
        x.fails("20 STUCK", Check.BAD_STATE, p -> p.update(1));
        x.call(p -> p.lend(1, 1, 2, 6));
        x.due("17 in time", p -> p.reason(1, false), 0);
        x.call(p -> p.lend(1, 0, 2, 3));
        x.due("17 just in time", p -> p.reason(1, false), 0);
        x.call(p -> p.setTask(0, 0, 4, 0, 10));
        x.due("17 in time still", p -> p.reason(1, false), 0);
        x.call(p -> p.setTask(1, 15, 1, NONE, 0));
        x.call(p -> p.setTask(0, 1, 4, 1, 5));
        x.call(p -> p.setNeed(1, 2, 1, true));
        x.due("17 too late", p -> p.reason(1, false), STUCK);
        x.due("18 too late", p -> p.reasonTask(1, false), 1);
        x.call(p -> p.lend(1, 1, 0, 399));
        x.due("20 at last", p -> p.update(1), 2);
    }

    private static void firstReason() {
        Run x = twoBranches();
        x.call(p -> p.setTask(0, 3, 1, NONE, 0));
        x.call(p -> p.setTask(0, 4, 1, NONE, 0));
        x.call(p -> p.update(1));
        x.call(p -> p.setTask(0, 0, 9, 0, 10));
        x.call(p -> p.setTask(1, 0, 8, 0, 10));
        x.call(p -> p.removeTask(0, 2));
        x.call(p -> p.setNeed(1, 1, 2, true));
        x.call(p -> p.setNeed(0, 3, 4, true));
        x.call(p -> p.setNeed(1, 4, 3, true));
        x.call(p -> p.setBudget(0, 0));
        x.call(p -> p.give(0, 1));
        x.due("17 CLASH first", p -> p.reason(1, true), CLASH);
        x.due("18 CLASH first", p -> p.reasonTask(1, true), 0);
        x.call(p -> p.resolve(1, 0, OWN));
        x.due("17 then MISSING", p -> p.reason(1, true), MISSING);
        x.due("18 then MISSING", p -> p.reasonTask(1, true), 1);
        x.call(p -> p.setNeed(1, 1, 2, false));
        x.due("17 then RING", p -> p.reason(1, true), RING);
        x.due("18 then RING", p -> p.reasonTask(1, true), 3);
        x.call(p -> p.setNeed(1, 4, 3, false));
        x.due("17 then BUDGET", p -> p.reason(1, true), BUDGET);
        x.due("18 then BUDGET", p -> p.reasonTask(1, true), NONE);
        x.call(p -> p.setBudget(0, 90));
        x.due("17 then STUCK", p -> p.reason(1, true), STUCK);
        x.due("18 then STUCK", p -> p.reasonTask(1, true), 0);
        x.call(p -> p.give(0, 0));
        x.due("17 then none", p -> p.reason(1, true), 0);
        x.due("18 then none", p -> p.reasonTask(1, true), NONE);
        x.due("19 then merged", p -> p.merge(1), 1);
    }

    private static void merge() {
        Run x = twoBranches();
        x.due("19 nothing new", p -> p.merge(1), 0);
        x.call(p -> p.setTask(0, 0, 9, 0, 10));
        x.due("19 new in the parent alone", p -> p.merge(1), 0);
        x.due("19 the branch gets it", p -> p.length(1, 0), 9);
        x.call(p -> p.setTask(1, 0, 5, 0, 10));
        x.call(p -> p.setTask(1, 1, 2, NONE, 5));
        x.call(p -> p.setTask(1, 2, 4, NONE, 2));
        x.call(p -> p.setNeed(1, 2, 0, true));
        x.call(p -> p.setTask(0, 3, 1, 0, 1));
        x.due("19 three are others", p -> p.merge(1), 3);
        x.due("19 parent", p -> p.length(0, 0), 5);
        x.due("19 parent's crew", p -> p.crew(0, 1), NONE);
        x.due("19 parent's needs", p -> p.needs(0, 2), 1);
        x.due("19 branch", p -> p.tasks(1), 15);
        x.due("19 base is new: no clash", p -> p.clashes(1), 0);
        x.call(p -> p.setTask(0, 0, 7, 0, 10));
        x.due("19 base is new: taken from the parent", p -> p.update(1), 1);
        x.due("19 base is new: taken from the parent", p -> p.length(1, 0), 7);
    }

    private static void update() {
        Run x = twoBranches();
        x.due("20 nothing new", p -> p.update(1), 0);
        x.call(p -> p.setTask(1, 0, 5, 0, 10));
        x.due("20 new in the branch alone", p -> p.update(1), 0);
        x.due("20 the parent does not get it", p -> p.length(0, 0), 3);
        x.due("20 the branch keeps it", p -> p.length(1, 0), 5);
        x.call(p -> p.setTask(0, 0, 3, 3, 10));
        x.call(p -> p.removeTask(0, 2));
        x.due("20 two are others", p -> p.update(1), 2);
        x.due("20 mixed length", p -> p.length(1, 0), 5);
        x.due("20 mixed crew", p -> p.crew(1, 0), 3);
        x.due("20 removed", p -> p.tasks(1), 3);
        x.due("20 the parent stays", p -> p.length(0, 0), 3);
        x.call(p -> p.setTask(0, 0, 9, 3, 10));
        x.due("20 the base is the parent's plan, not the branch's", p -> p.clashes(1), 1);
    }

    private static void updateThenMerge() {
        Run x = twoBranches();
        x.call(p -> p.setTask(1, 0, 5, 0, 10));
        x.call(p -> p.setTask(0, 0, 6, 0, 10));
        x.call(p -> p.resolve(1, 0, OWN));
        x.due("20 own", p -> p.update(1), 0);
        x.due("16 clashes no more", p -> p.clashes(1), 0);
        x.due("19 into the parent", p -> p.merge(1), 1);
        x.due("19 own", p -> p.length(0, 0), 5);
    }

    private static void historyBehindJoining() {
        Run x = twoBranches();
        x.call(p -> p.setTask(0, 5, 1, 0, 0));
        x.call(p -> p.setTask(1, 6, 1, 0, 0));
        x.call(p -> p.update(1));
        x.fails("5 brought up to date", Check.BAD_STATE, p -> p.undo(1));
        x.due("5 from which it was brought up to date", p -> p.undo(0), 0);
        x.call(p -> p.setTask(0, 7, 1, 0, 0));
        x.call(p -> p.setTask(1, 8, 1, 0, 0));
        x.call(p -> p.begin(1));
        lendAll(x, 2, 300);
        x.call(p -> p.setTask(1, 9, 1, 0, 0));
        x.call(p -> p.setTask(2, 10, 1, 0, 0));
        x.call(p -> p.merge(1));
        x.fails("5 merged", Check.BAD_STATE, p -> p.undo(1));
        x.fails("5 merged into", Check.BAD_STATE, p -> p.undo(0));
        x.due("5 neither", p -> p.undo(2), 0);
        x.call(p -> p.setTask(0, 0, 2, 0, 0));
        x.call(p -> p.setTask(1, 0, 1, 0, 0));
        x.due("5 a change", p -> p.undo(1), 0);
        x.call(p -> p.setTask(1, 0, 1, 0, 10));
        x.fails("19 a clash", Check.BAD_STATE, p -> p.merge(1));
        x.fails("20 a clash", Check.BAD_STATE, p -> p.update(1));
        x.due("5 not merged", p -> p.undo(1), 0);
        x.due("5 not merged into", p -> p.undo(0), 0);
    }

    private static void ofGrandchildren() {
        Run x = twoBranches();
        x.call(p -> p.begin(1));
        lendAll(x, 2, 300);
        x.call(p -> p.setTask(2, 0, 11, 0, 10));
        x.due("19 into its parent", p -> p.merge(2), 1);
        x.due("19 its parent", p -> p.length(1, 0), 11);
        x.due("19 not the branch 0", p -> p.length(0, 0), 3);
        x.call(p -> p.setTask(0, 1, 9, 1, 5));
        x.due("20 from its parent alone", p -> p.update(2), 0);
        x.due("20 of the parent", p -> p.update(1), 1);
        x.due("16 of the grandchild", p -> p.clashes(2), 0);
        x.due("20 then", p -> p.update(2), 1);
        x.due("20 then", p -> p.length(2, 1), 9);
        x.due("19 into the branch 0", p -> p.merge(1), 1);
        x.due("19 into the branch 0", p -> p.length(0, 0), 11);
    }

    private static void wrong() {
        Run x = twoBranches();
        x.fails("13 branch -1", Check.NO_BRANCH, p -> p.parent(-1));
        x.fails("13 branch 2", Check.NO_BRANCH, p -> p.parent(2));
        x.fails("16 branch -1", Check.NO_BRANCH, p -> p.clashes(-1));
        x.fails("16 branch 2", Check.NO_BRANCH, p -> p.clashes(2));
        for (int merges : Check.numbers(0, 1)) {
            x.fails("17 branch -1", Check.NO_BRANCH, p -> p.reason(-1, merges == 1));
            x.fails("17 branch 2", Check.NO_BRANCH, p -> p.reason(2, merges == 1));
            x.fails("17 branch 0", Check.BAD_STATE, p -> p.reason(0, merges == 1));
            x.fails("18 branch -1", Check.NO_BRANCH, p -> p.reasonTask(-1, merges == 1));
            x.fails("18 branch 2", Check.NO_BRANCH, p -> p.reasonTask(2, merges == 1));
            x.fails("18 branch 0", Check.BAD_STATE, p -> p.reasonTask(0, merges == 1));
        }
        x.fails("19 branch -1", Check.NO_BRANCH, p -> p.merge(-1));
        x.fails("19 branch 2", Check.NO_BRANCH, p -> p.merge(2));
        x.fails("19 branch 0", Check.BAD_STATE, p -> p.merge(0));
        x.fails("20 branch -1", Check.NO_BRANCH, p -> p.update(-1));
        x.fails("20 branch 8", Check.NO_BRANCH, p -> p.update(8));
        x.fails("20 branch 0", Check.BAD_STATE, p -> p.update(0));
    }
}
