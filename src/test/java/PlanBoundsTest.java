/** The boundary cases of plans, one sentence of the document after the other: "Terms" and promises 1 to 10. */
public final class PlanBoundsTest {
    private static final int NONE = PlanBranches.NONE;
    private static final int ALL = 65535;

    public static void main(String[] args) {
        at512Calls();
        tasksCrewsAndDays();
        firstListedException();
        partsOfATask();
        needsAreThere();
        noTaskNeedsItself();
        costOfAPlan();
        thirtyChanges();
        undoGoesRound();
        newObject();
        needsStay();
        setTaskIsAChange();
        answersOfChanges();
        removeTask();
        setNeedIsAChange();
        undoAnswers();
        emptyAndFullPlans();
        Check.end();
    }

    private static void at512Calls() {
        Check.of("What it is", "An object is used for at most 512 calls after it has been made; what later calls answer is free.");
        Run x = new Run();
        for (int call : Check.numbers(1, 480)) {
            x.call(p -> p.setTask(0, call % 16, call % 20 + 1, NONE, call));
        }
        for (int left = 29; left >= 0; left--) {
            x.due("the calls 481 to 510", p -> p.undo(0), left);
        }
        x.due("the call 511", p -> p.tasks(0), ALL);
        int cost = 0;
        for (int call : Check.numbers(435, 450)) {
            cost += call * (call % 20 + 1);
        }
        x.due("the call 512", p -> p.cost(0), cost);

        Run y = new Run();
        for (int branch : Check.numbers(1, 7)) {
            y.call(p -> p.begin(branch - 1));
        }
        for (int call : Check.numbers(8, 507)) {
            y.call(p -> p.setTask(7, call % 16, 20, NONE, call));
        }
        for (int branch = 7; branch >= 4; branch--) {
            int of = branch;
            y.due("the calls 508 to 511", p -> p.merge(of), 16);
        }
        y.due("the call 512", p -> p.merge(3), 16);
    }

    private static void tasksCrewsAndDays() {
        Check.of("Terms", "There are the tasks 0 to 15 and the crews 0 to 4; days are numbered from 0 to 399.");
        Run x = new Run();
        x.due("task 0, crew 4", p -> p.setTask(0, 0, 1, 4, 0), false);
        x.due("task 15, crew 0", p -> p.setTask(0, 15, 1, 0, 0), false);
        x.fails("task -1", Check.BAD_ARGUMENT, p -> p.setTask(0, -1, 1, 0, 0));
        x.fails("task 16", Check.BAD_ARGUMENT, p -> p.setTask(0, 16, 1, 0, 0));
        x.fails("crew 5", Check.BAD_ARGUMENT, p -> p.setTask(0, 1, 1, 5, 0));
        x.fails("crew -1 of holder", Check.BAD_ARGUMENT, p -> p.holder(-1, 0));
        x.due("tasks", p -> p.tasks(0), Check.bits(0, 15));
        x.due("day 0 of crew 4", p -> p.taskOn(0, 4, 0), 0);
        x.due("day 0 of crew 0", p -> p.taskOn(0, 0, 0), 15);
        x.due("day 399", p -> p.taskOn(0, 4, 399), NONE);
        x.due("day 399 is held", p -> p.holder(4, 399), 0);
        x.fails("day 400", Check.BAD_ARGUMENT, p -> p.taskOn(0, 4, 400));
        x.fails("day -1", Check.BAD_ARGUMENT, p -> p.taskOn(0, 4, -1));
        x.fails("day 400 of holder", Check.BAD_ARGUMENT, p -> p.holder(4, 400));
        x.fails("day -1 of holder", Check.BAD_ARGUMENT, p -> p.holder(4, -1));
        x.due("a loan of day 399", p -> p.lend(4, 0, 399, 399), 1);
        x.fails("a loan of day 400", Check.BAD_ARGUMENT, p -> p.lend(4, 0, 399, 400));
    }

    private static void firstListedException() {
        Check.of("Terms", "A method throws IndexOutOfBoundsException if there is no such branch, IllegalArgumentException"
                + " if another argument is out of range, and IllegalStateException as it documents; if several apply,"
                + " the one that it lists first is thrown.");
        Run x = new Run();
        x.fails("all of setTask", Check.NO_BRANCH, p -> p.setTask(1, 16, 21, 5, 1001));
        x.fails("all of setTask but the branch", Check.BAD_ARGUMENT, p -> p.setTask(0, 16, 21, 5, 1001));
        x.fails("no branch, no task", Check.NO_BRANCH, p -> p.removeTask(1, 0));
        x.fails("no branch, the same task", Check.NO_BRANCH, p -> p.setNeed(-1, 4, 4, true));
        x.fails("the same task that is not there", Check.BAD_ARGUMENT, p -> p.setNeed(0, 4, 4, true));
        x.fails("the same task, to need it no more", Check.BAD_ARGUMENT, p -> p.setNeed(0, 4, 4, false));
        x.fails("tasks not there", Check.BAD_STATE, p -> p.setNeed(0, 4, 5, true));
        x.fails("no branch, no crew", Check.NO_BRANCH, p -> p.give(5, 1));
        x.fails("no branch, no crew to lend", Check.NO_BRANCH, p -> p.lend(-1, 1, 0, 0));
        x.fails("no branch, no crew, no day", Check.NO_BRANCH, p -> p.taskOn(1, 5, 400));
        x.fails("no branch, no budget", Check.NO_BRANCH, p -> p.setBudget(1, -1));
        x.fails("no branch, no side", Check.NO_BRANCH, p -> p.resolve(1, 0, 2));
        x.fails("a side out of range, of branch 0", Check.BAD_ARGUMENT, p -> p.resolve(0, 0, 2));
        x.fails("branch 0", Check.BAD_STATE, p -> p.resolve(0, 0, 0));
        for (int branch : Check.numbers(1, 7)) {
            x.call(p -> p.begin(0));
        }
        for (int loan : Check.numbers(1, 40)) {
            x.call(p -> p.lend(0, 1, loan, loan));
        }
        x.fails("8 branches, and none such", Check.NO_BRANCH, p -> p.begin(8));
        x.fails("8 branches", Check.BAD_STATE, p -> p.begin(7));
        x.fails("40 loans, a wrong day, and no branch", Check.NO_BRANCH, p -> p.lend(0, 8, 5, 4));
        x.fails("40 loans, a wrong day", Check.BAD_ARGUMENT, p -> p.lend(0, 7, 5, 4));
        x.fails("40 loans", Check.BAD_STATE, p -> p.lend(0, 7, 5, 5));
    }

    private static void partsOfATask() {
        Check.of("Terms", "In a plan each task is there or not.");
        Run none = new Run();
        for (int task : Check.numbers(0, 15)) {
            none.due("not there", p -> p.tasks(0), 0);
            none.call(p -> p.setTask(0, task, 1, NONE, 0));
            none.due("there, alone", p -> p.tasks(0), 1 << task);
            none.call(p -> p.removeTask(0, task));
        }
        Check.of("Terms", "A task that is there has a length, 1 to 20 days, a crew or none, a cost for each day, 0 to 1000,"
                + " and needs, which are other tasks that have to end ahead of its beginning.");
        Run x = new Run();
        x.call(p -> p.setTask(0, 7, 1, NONE, 0));
        x.due("the least length", p -> p.length(0, 7), 1);
        x.due("no crew", p -> p.crew(0, 7), NONE);
        x.due("the least cost", p -> p.cost(0), 0);
        x.due("ends on its first day", p -> p.lastDay(0), 0);
        x.fails("length 0", Check.BAD_ARGUMENT, p -> p.setTask(0, 7, 0, NONE, 0));
        x.fails("length 21", Check.BAD_ARGUMENT, p -> p.setTask(0, 7, 21, NONE, 0));
        x.fails("crew -2", Check.BAD_ARGUMENT, p -> p.setTask(0, 7, 1, -2, 0));
        x.fails("crew 5", Check.BAD_ARGUMENT, p -> p.setTask(0, 7, 1, 5, 0));
        x.fails("cost -1", Check.BAD_ARGUMENT, p -> p.setTask(0, 7, 1, NONE, -1));
        x.fails("cost 1001", Check.BAD_ARGUMENT, p -> p.setTask(0, 7, 1, NONE, 1001));
        x.call(p -> p.setTask(0, 7, 20, 4, 1000));
        x.due("the greatest length", p -> p.length(0, 7), 20);
        x.due("the greatest crew", p -> p.crew(0, 7), 4);
        x.due("the greatest cost", p -> p.cost(0), 20000);
        x.due("ends on its twentieth day", p -> p.lastDay(0), 19);
        x.call(p -> p.setTask(0, 3, 1, NONE, 1));
        x.call(p -> p.setNeed(0, 3, 7, true));
        x.due("its need ends the day ahead of it", p -> p.firstDay(0, 3), 20);
        x.call(p -> p.setTask(0, 7, 20, 0, 1000));
        x.due("the least crew", p -> p.crew(0, 7), 0);
        x.due("the tasks of both", p -> p.cost(0), 20001);
    }

    private static void needsAreThere() {
        Check.of("Terms", "The needs of a task are always there, and no task needs itself, over others or not.");
        Run x = new Run();
        x.call(p -> p.setTask(0, 0, 2, NONE, 0));
        x.call(p -> p.setTask(0, 15, 3, NONE, 0));
        x.call(p -> p.setTask(0, 8, 4, NONE, 0));
        x.fails("to need one that is not there", Check.BAD_STATE, p -> p.setNeed(0, 0, 1, true));
        x.fails("one that is not there needs", Check.BAD_STATE, p -> p.setNeed(0, 1, 0, true));
        x.fails("not to need one that is not there", Check.BAD_STATE, p -> p.setNeed(0, 0, 1, false));
        x.fails("one that is not there, not to need", Check.BAD_STATE, p -> p.setNeed(0, 1, 0, false));
        x.call(p -> p.setNeed(0, 8, 0, true));
        x.call(p -> p.setNeed(0, 15, 8, true));
        x.fails("it is needed, and needs another one", Check.BAD_STATE, p -> p.removeTask(0, 8));
        x.due("it needs it still", p -> p.needs(0, 8), 1);
        x.call(p -> p.setNeed(0, 15, 8, false));
        x.call(p -> p.setNeed(0, 15, 0, true));
        x.fails("two need it", Check.BAD_STATE, p -> p.removeTask(0, 0));
        x.call(p -> p.setNeed(0, 8, 0, false));
        x.fails("the task 15 needs it", Check.BAD_STATE, p -> p.removeTask(0, 0));
        x.due("it is needed still", p -> p.needs(0, 15), 1);
        x.due("that which needs it", p -> p.removeTask(0, 15), 3);
        x.due("none needs it any more", p -> p.removeTask(0, 0), 2);
        x.due("one that never needed it", p -> p.tasks(0), Check.bits(8));
        x.due("the removal undone", p -> p.undo(0), 9);
        x.due("both undone", p -> p.undo(0), 8);
        x.fails("needed again", Check.BAD_STATE, p -> p.removeTask(0, 0));
        neededByEach();
    }

    private static void neededByEach() {
        Run x = new Run();
        for (int task : Check.numbers(0, 15)) {
            x.call(p -> p.setTask(0, task, 1, NONE, 0));
        }
        for (int task : Check.numbers(0, 15)) {
            int other = 15 - task;
            x.call(p -> p.setNeed(0, task, other, true));
            x.fails("needed by task " + task, Check.BAD_STATE, p -> p.removeTask(0, other));
            x.call(p -> p.setNeed(0, task, other, false));
            x.due("needed by none", p -> p.removeTask(0, other), 1);
            x.call(p -> p.undo(0));
        }
    }

    private static void noTaskNeedsItself() {
        Check.of("Terms", "no task needs itself, over others or not");
        for (int length : Check.numbers(2, 16)) {
            Run x = new Run();
            for (int task : Check.numbers(0, length - 1)) {
                x.call(p -> p.setTask(0, task, 1, NONE, 0));
            }
            // Up and down the numbers, so that no single order of looking finds all.
            for (int at : Check.numbers(1, length - 1)) {
                x.due("a row of " + length, p -> p.setNeed(0, turned(at - 1, length), turned(at, length), true), false);
            }
            int first = turned(0, length);
            int last = turned(length - 1, length);
            x.fails("a ring of " + length, Check.BAD_STATE, p -> p.setNeed(0, last, first, true));
            x.due("no ring, if it does not", p -> p.setNeed(0, last, first, false), false);
            x.due("along the row is no ring", p -> p.setNeed(0, first, last, true), length == 2);
            x.fails("still a ring", Check.BAD_STATE, p -> p.setNeed(0, last, first, true));
            x.fails("by itself", Check.BAD_ARGUMENT, p -> p.setNeed(0, first, first, true));
            x.call(p -> p.setNeed(0, first, last, false));
            if (length > 2) {
                x.call(p -> p.setNeed(0, first, turned(1, length), false));
            }
            x.due("no ring any more", p -> p.setNeed(0, last, first, true), false);
        }
    }

    /** The middle, the one behind it, the one ahead of it, and so on to both ends of the numbers. */
    private static int turned(int at, int length) {
        int middle = length / 2;
        return at % 2 == 0 ? middle - (at / 2) - (length % 2 == 0 ? 1 : 0) : middle + at / 2 + length % 2;
    }

    private static void costOfAPlan() {
        Check.of("Terms", "The cost of a plan is the length times the cost for each day, of all tasks together.");
        Run x = new Run();
        x.due("of no task", p -> p.cost(0), 0);
        x.call(p -> p.setTask(0, 15, 20, NONE, 0));
        x.due("without cost", p -> p.cost(0), 0);
        x.call(p -> p.setTask(0, 15, 1, NONE, 1));
        x.due("the least one", p -> p.cost(0), 1);
        for (int task : Check.numbers(0, 15)) {
            x.call(p -> p.setTask(0, task, 20, NONE, 1000));
            x.due("up to task " + task, p -> p.cost(0), 20000 * (task + 1) + (task < 15 ? 1 : 0));
        }
        x.call(p -> p.removeTask(0, 0));
        x.due("without task 0", p -> p.cost(0), 300000);
        x.call(p -> p.undo(0));
        x.due("with it again", p -> p.cost(0), 320000);
    }

    private static void thirtyChanges() {
        Check.of("Terms", "A change of a plan can be undone, the latest first, as long as not more than 30 are;");
        for (int changes : new int[] {0, 1, 29, 30, 31, 32, 59, 60, 61, 90, 91}) {
            Run x = new Run();
            for (int change : Check.numbers(1, changes)) {
                x.call(p -> p.setTask(0, 0, change % 20 + 1, NONE, change));
            }
            int undone = Math.min(changes, 30);
            for (int left = undone - 1; left >= 0; left--) {
                x.due("of " + changes + " changes", p -> p.undo(0), left);
                int change = changes - undone + left;
                x.due("the plan then", p -> p.cost(0), change * (change % 20 + 1));
            }
            x.fails("no more of " + changes, Check.BAD_STATE, p -> p.undo(0));
            x.due("what is left", p -> p.tasks(0), changes > 30 ? 1 : 0);
            x.call(p -> p.setTask(0, 1, 1, NONE, 0));
            x.due("a change behind them", p -> p.undo(0), 0);
        }
        Run each = eachChange();
        for (int left = 29; left >= 0; left--) {
            each.due("all kinds of changes", p -> p.undo(0), left);
        }
        each.due("before all of them", p -> p.tasks(0), Check.bits(0, 1));
        each.due("before all of them", p -> p.needs(0, 1), 1);
        each.fails("no more", Check.BAD_STATE, p -> p.undo(0));
    }

    /** Three changes, and then thirty of all kinds, also such by which nothing becomes another. */
    private static Run eachChange() {
        Run x = new Run();
        x.call(p -> p.setTask(0, 0, 1, NONE, 0));
        x.call(p -> p.setTask(0, 1, 1, NONE, 0));
        x.call(p -> p.setNeed(0, 1, 0, true));
        for (int round = 0; round < 5; round++) {
            x.call(p -> p.setNeed(0, 1, 0, true));
            x.call(p -> p.setNeed(0, 1, 0, false));
            x.call(p -> p.setNeed(0, 1, 0, false));
            x.call(p -> p.removeTask(0, 0));
            x.call(p -> p.setTask(0, 0, 1, NONE, 0));
            x.call(p -> p.setTask(0, 0, 1, NONE, 0));
        }
        return x;
    }

    /** Undone and changed again, so that the thirty that are kept go round more than once. */
    private static void undoGoesRound() {
        Check.of("Terms", "A change of a plan can be undone, the latest first, as long as not more than 30 are;");
        Run x = new Run();
        int kept = 0;
        int cost = 0;
        int[] costs = new int[600];
        for (int round : Check.numbers(1, 9)) {
            for (int change : Check.numbers(1, 5 * round)) {
                int to = 100 * round + change;
                costs[kept++] = cost;
                x.call(p -> p.setTask(0, 15, 1, NONE, to));
                cost = to;
            }
            int most = Math.min(kept, 30);
            for (int left : Check.numbers(1, Math.min(most, 2 * round))) {
                x.due("in round " + round, p -> p.undo(0), most - left);
                cost = costs[--kept];
            }
            int due = cost;
            x.due("the plan of round " + round, p -> p.cost(0), due);
        }
    }

    private static void newObject() {
        Check.of("Promise 1", "The branch 0 with an empty plan; all budgets are 1000000.");
        Run x = new Run();
        x.due("one branch", p -> p.branches(), 1);
        x.fails("no branch 1", Check.NO_BRANCH, p -> p.cost(1));
        x.fails("no branch -1", Check.NO_BRANCH, p -> p.cost(-1));
        x.due("no tasks", p -> p.tasks(0), 0);
        for (int task : Check.numbers(0, 15)) {
            x.due("length", p -> p.length(0, task), 0);
            x.due("crew", p -> p.crew(0, task), NONE);
            x.due("needs", p -> p.needs(0, task), 0);
        }
        x.due("the budget", p -> p.setBudget(0, 0), 1000000);
    }

    private static void needsStay() {
        Check.of("Promise 2", "one that was not there has no needs, otherwise its needs stay.");
        Run x = new Run();
        for (int task : Check.numbers(0, 15)) {
            x.due("was not there", p -> p.setTask(0, task, 1, NONE, 0), false);
            x.due("no needs", p -> p.needs(0, task), 0);
        }
        for (int need : Check.numbers(0, 14)) {
            x.call(p -> p.setNeed(0, 15, need, true));
        }
        x.due("was there", p -> p.setTask(0, 15, 20, 4, 1000), true);
        x.due("all its needs stay", p -> p.needs(0, 15), 32767);
        x.due("one of them", p -> p.setTask(0, 0, 20, 4, 1000), true);
        x.due("all its needs still stay", p -> p.needs(0, 15), 32767);
        x.call(p -> p.removeTask(0, 15));
        x.due("was removed", p -> p.setTask(0, 15, 20, 4, 1000), false);
        x.due("no needs then", p -> p.needs(0, 15), 0);
        x.call(p -> p.undo(0));
        x.call(p -> p.undo(0));
        x.due("is there again", p -> p.setTask(0, 15, 1, 4, 1000), true);
        x.due("with all its needs", p -> p.needs(0, 15), 32767);
    }

    private static void setTaskIsAChange() {
        Check.of("Promise 2", "This is a change, also if nothing becomes another.");
        Run x = new Run();
        x.call(p -> p.setTask(0, 2, 5, 1, 9));
        x.due("the same again", p -> p.setTask(0, 2, 5, 1, 9), true);
        x.fails("a call that throws is none", Check.BAD_ARGUMENT, p -> p.setTask(0, 2, 5, 1, 1001));
        x.due("by which nothing became another", p -> p.undo(0), 1);
        x.due("is there still", p -> p.length(0, 2), 5);
        x.due("the first", p -> p.undo(0), 0);
        x.due("is not there", p -> p.length(0, 2), 0);
        x.due("has no crew", p -> p.crew(0, 2), NONE);
    }

    private static void answersOfChanges() {
        Run x = new Run();
        for (int task : new int[] {0, 15}) {
            Check.of("Promise 2", "Returns whether it was there.");
            x.due("not there", p -> p.setTask(0, task, 20, 0, 0), false);
            x.due("there, the same", p -> p.setTask(0, task, 20, 0, 0), true);
            x.due("there, another", p -> p.setTask(0, task, 1, 0, 0), true);
            Check.of("Promise 3", "Returns its length.");
            x.due("of a day", p -> p.removeTask(0, task), 1);
            x.call(p -> p.undo(0));
            x.call(p -> p.undo(0));
            x.due("of twenty days", p -> p.removeTask(0, task), 20);
            Check.of("Promise 2", "Returns whether it was there.");
            x.due("removed", p -> p.setTask(0, task, 3, 0, 0), false);
            x.call(p -> p.undo(0));
            x.due("its setting undone", p -> p.setTask(0, task, 3, 0, 0), false);
        }
        Check.of("Promise 4", "Returns whether it did.");
        x.due("did not", p -> p.setNeed(0, 15, 0, false), false);
        x.due("did not", p -> p.setNeed(0, 15, 0, true), false);
        x.due("did", p -> p.setNeed(0, 15, 0, true), true);
        x.due("did", p -> p.setNeed(0, 15, 0, false), true);
        x.due("did not any more", p -> p.setNeed(0, 15, 0, false), false);
        x.call(p -> p.undo(0));
        x.call(p -> p.undo(0));
        x.due("did, for it is undone", p -> p.setNeed(0, 15, 0, false), true);
        x.due("the other did not", p -> p.setNeed(0, 0, 15, false), false);
    }

    private static void removeTask() {
        Check.of("Promise 3", "Removes a task from a plan. This is a change.");
        for (int task : new int[] {0, 15}) {
            for (int length : new int[] {1, 20}) {
                Run x = new Run();
                x.fails("not there", Check.BAD_STATE, p -> p.removeTask(0, task));
                x.call(p -> p.setTask(0, task, length, 4, 3));
                x.due("its length", p -> p.removeTask(0, task), length);
                x.fails("not there any more", Check.BAD_STATE, p -> p.removeTask(0, task));
                x.due("no task", p -> p.tasks(0), 0);
                x.due("no crew", p -> p.crew(0, task), NONE);
                x.due("undone", p -> p.undo(0), 1);
                x.due("there again", p -> p.crew(0, task), 4);
                x.due("costs again", p -> p.cost(0), 3 * length);
            }
        }
    }

    private static void setNeedIsAChange() {
        Check.of("Promise 4", "Lets a task need another one, or not any more. This is a change, also if nothing becomes another.");
        Run x = new Run();
        x.call(p -> p.setTask(0, 0, 5, 1, 9));
        x.call(p -> p.setTask(0, 15, 5, 1, 9));
        x.due("did not, does not", p -> p.setNeed(0, 0, 15, false), false);
        x.due("did not, does", p -> p.setNeed(0, 0, 15, true), false);
        x.due("did, does", p -> p.setNeed(0, 0, 15, true), true);
        x.fails("a call that throws is none", Check.BAD_STATE, p -> p.setNeed(0, 15, 0, true));
        x.due("did, does not", p -> p.setNeed(0, 0, 15, false), true);
        int[] needs = {1 << 15, 1 << 15, 0, 0};
        for (int at : Check.numbers(0, 3)) {
            x.due("undone", p -> p.undo(0), 5 - at);
            x.due("the need then", p -> p.needs(0, 0), needs[at]);
        }
        x.due("the tasks are there still", p -> p.tasks(0), Check.bits(0, 15));
    }

    private static void undoAnswers() {
        Check.of("Promise 5", "Undoes the latest change of a plan that can be undone.");
        Run latest = new Run();
        latest.call(p -> p.setTask(0, 0, 1, NONE, 0));
        latest.call(p -> p.begin(0));
        latest.call(p -> p.setTask(0, 0, 2, NONE, 0));
        latest.call(p -> p.setTask(0, 15, 3, NONE, 0));
        latest.call(p -> p.setTask(1, 15, 4, NONE, 0));
        latest.call(p -> p.undo(0));
        latest.due("the latest of this branch", p -> p.tasks(0), 1);
        latest.due("not that of the other one", p -> p.length(1, 15), 4);
        latest.call(p -> p.undo(0));
        latest.due("the latest that is left", p -> p.length(0, 0), 1);
        latest.fails("the first cannot be undone", Check.BAD_STATE, p -> p.undo(0));
        Check.of("Promise 5", "Returns how many can be undone then.");
        Run x = new Run();
        x.fails("none", Check.BAD_STATE, p -> p.undo(0));
        x.call(p -> p.setTask(0, 0, 1, NONE, 0));
        x.due("the only one", p -> p.undo(0), 0);
        x.fails("undoing is no change", Check.BAD_STATE, p -> p.undo(0));
        x.call(p -> p.begin(0));
        x.call(p -> p.setTask(1, 0, 1, NONE, 0));
        x.call(p -> p.setTask(1, 1, 1, NONE, 0));
        x.fails("none of the other branch", Check.BAD_STATE, p -> p.undo(0));
        x.due("of this branch", p -> p.undo(1), 1);
        x.due("of this branch", p -> p.undo(1), 0);
        x.fails("no more of this branch", Check.BAD_STATE, p -> p.undo(1));
    }

    private static void emptyAndFullPlans() {
        Check.of("Promise 6", "Returns the tasks that are there in a plan: bit t stands for the task t.");
        Run x = new Run();
        x.due("empty", p -> p.tasks(0), 0);
        for (int task : Check.numbers(0, 15)) {
            x.call(p -> p.setTask(0, task, 20 - task, task % 5, 1));
            x.due("up to " + task, p -> p.tasks(0), (2 << task) - 1);
        }
        Check.of("Promise 7", "Returns the length of a task; 0 if it is not there.");
        ofEach(x, (p, task) -> p.length(0, task), task -> 20 - task, 0);
        Check.of("Promise 8", "Returns the crew of a task; NONE if it has none, or is not there.");
        ofEach(x, (p, task) -> p.crew(0, task), task -> task % 5, NONE);
        Run bare = new Run();
        bare.call(p -> p.setTask(0, 15, 1, NONE, 0));
        bare.due("has none", p -> p.crew(0, 15), NONE);
        Check.of("Promise 9", "Returns the needs of a task: bit t stands for the task t; 0 if it is not there.");
        Run y = x.copy();
        for (int task : Check.numbers(0, 15)) {
            for (int need : Check.numbers(task + 1, 15)) {
                y.call(p -> p.setNeed(0, task, need, true));
            }
        }
        ofEach(y, (p, task) -> p.needs(0, task), task -> ALL - ((2 << task) - 1), 0);
        Check.of("Promise 10", "Returns the cost of a plan.");
        x.due("of all", p -> p.cost(0), 20 * 16 - 120);
        x.due("of none", p -> new PlanBranches().cost(0), 0);
    }

    private interface AskOfTask {
        int of(PlanBranches plans, int task);
    }

    private interface DueOfTask {
        int of(int task);
    }

    /** Asked of each task of a full plan; then each is removed, from the lowest on, and asked for again. */
    private static void ofEach(Run full, AskOfTask ask, DueOfTask due, int gone) {
        Run x = full.copy();
        for (int task : Check.numbers(0, 15)) {
            x.due("of task " + task, p -> ask.of(p, task), due.of(task));
        }
        for (int task : Check.numbers(0, 15)) {
            x.call(p -> p.removeTask(0, task));
            x.due("of task " + task + " removed", p -> ask.of(p, task), gone);
        }
    }
}
