/** Promises 1 to 10: a new object, and the plans. */
public final class PlansTest {
    private static final int NONE = PlanBranches.NONE;

    public static void main(String[] args) {
        newObject();
        setTask();
        setTaskWrong();
        removeTask();
        setNeed();
        setNeedRings();
        undo();
        undoAtMost();
        undoWrong();
        asksOfTasks();
        asksWrong();
        cost();
        Check.end();
    }

    private static void newObject() {
        Run x = new Run();
        x.due("1 branches", p -> p.branches(), 1);
        x.due("1 tasks", p -> p.tasks(0), 0);
        x.due("1 cost", p -> p.cost(0), 0);
        x.due("1 parent", p -> p.parent(0), NONE);
        x.due("1 budget", p -> p.setBudget(0, 5), 1000000);
        Check.due("1 no branch of another object", new PlanBranches().branches(), 1);
        for (int crew : Check.numbers(0, 4)) {
            x.due("1 holder", p -> p.holder(crew, 0), 0);
            x.due("1 holder", p -> p.holder(crew, 399), 0);
        }
        x.fails("1 nothing to undo", Check.BAD_STATE, p -> p.undo(0));
        x.fails("1 no branch 1", Check.NO_BRANCH, p -> p.tasks(1));
    }

    private static void setTask() {
        Run x = new Run();
        x.due("2 was not there", p -> p.setTask(0, 0, 1, NONE, 0), false);
        x.due("2 was there", p -> p.setTask(0, 0, 1, NONE, 0), true);
        x.due("2 greatest", p -> p.setTask(0, 15, 20, 4, 1000), false);
        x.due("2 length", p -> p.length(0, 15), 20);
        x.due("2 crew", p -> p.crew(0, 15), 4);
        x.due("2 cost", p -> p.cost(0), 20000);
        x.due("2 no needs", p -> p.needs(0, 15), 0);
        x.call(p -> p.setNeed(0, 15, 0, true));
        x.due("2 was there with needs", p -> p.setTask(0, 15, 3, 0, 7), true);
        x.due("2 needs stay", p -> p.needs(0, 15), 1);
        x.due("2 length is set", p -> p.length(0, 15), 3);
        x.due("2 crew is set", p -> p.crew(0, 15), 0);
        x.due("2 cost is set", p -> p.cost(0), 21);
        x.call(p -> p.setTask(0, 15, 3, NONE, 7));
        x.due("2 no crew", p -> p.crew(0, 15), NONE);
        x.call(p -> p.removeTask(0, 15));
        x.due("2 was removed", p -> p.setTask(0, 15, 3, 0, 7), false);
        x.due("2 no needs behind a removal", p -> p.needs(0, 15), 0);
        x.call(p -> p.begin(0));
        x.call(p -> p.setTask(1, 15, 8, 1, 9));
        x.due("2 another branch stays", p -> p.length(0, 15), 3);
    }

    private static void setTaskWrong() {
        Run x = new Run();
        x.call(p -> p.setTask(0, 3, 4, 2, 5));
        x.fails("2 branch -1", Check.NO_BRANCH, p -> p.setTask(-1, 0, 1, 0, 0));
        x.fails("2 branch 1", Check.NO_BRANCH, p -> p.setTask(1, 0, 1, 0, 0));
        x.fails("2 branch 8", Check.NO_BRANCH, p -> p.setTask(8, 0, 1, 0, 0));
        x.fails("2 branch first", Check.NO_BRANCH, p -> p.setTask(Integer.MAX_VALUE, 16, 0, 5, -1));
        x.fails("2 task -1", Check.BAD_ARGUMENT, p -> p.setTask(0, -1, 1, 0, 0));
        x.fails("2 task 16", Check.BAD_ARGUMENT, p -> p.setTask(0, 16, 1, 0, 0));
        x.fails("2 length 0", Check.BAD_ARGUMENT, p -> p.setTask(0, 3, 0, 0, 0));
        x.fails("2 length 21", Check.BAD_ARGUMENT, p -> p.setTask(0, 3, 21, 0, 0));
        x.fails("2 crew -2", Check.BAD_ARGUMENT, p -> p.setTask(0, 3, 1, -2, 0));
        x.fails("2 crew 5", Check.BAD_ARGUMENT, p -> p.setTask(0, 3, 1, 5, 0));
        x.fails("2 cost -1", Check.BAD_ARGUMENT, p -> p.setTask(0, 3, 1, 0, -1));
        x.fails("2 cost 1001", Check.BAD_ARGUMENT, p -> p.setTask(0, 3, 1, 0, 1001));
        x.due("2 what throws is no change", p -> p.undo(0), 0);
    }

    private static void removeTask() {
        Run x = new Run();
        x.call(p -> p.setTask(0, 1, 7, 3, 2));
        x.call(p -> p.setTask(0, 2, 9, NONE, 2));
        x.call(p -> p.setNeed(0, 2, 1, true));
        x.fails("3 needed", Check.BAD_STATE, p -> p.removeTask(0, 1));
        x.fails("3 not there", Check.BAD_STATE, p -> p.removeTask(0, 0));
        x.fails("3 task -1", Check.BAD_ARGUMENT, p -> p.removeTask(0, -1));
        x.fails("3 task 16", Check.BAD_ARGUMENT, p -> p.removeTask(0, 16));
        x.fails("3 branch 1", Check.NO_BRANCH, p -> p.removeTask(1, 16));
        x.fails("3 branch -1", Check.NO_BRANCH, p -> p.removeTask(-1, 1));
        x.due("3 length", p -> p.removeTask(0, 2), 9);
        x.due("3 tasks", p -> p.tasks(0), 2);
        x.due("3 no longer needed", p -> p.removeTask(0, 1), 7);
        x.due("3 none", p -> p.tasks(0), 0);
        x.due("3 no length", p -> p.length(0, 1), 0);
        x.due("3 no crew", p -> p.crew(0, 1), NONE);
        x.due("3 no needs", p -> p.needs(0, 2), 0);
        x.due("3 no cost", p -> p.cost(0), 0);
        x.due("3 is a change", p -> p.undo(0), 4);
        x.due("3 undone", p -> p.length(0, 1), 7);
        x.due("3 crew undone", p -> p.crew(0, 1), 3);
        x.call(p -> p.undo(0));
        x.due("3 needs undone", p -> p.needs(0, 2), 2);
    }

    private static void setNeed() {
        Run x = new Run();
        x.call(p -> p.setTask(0, 0, 1, NONE, 0));
        x.call(p -> p.setTask(0, 15, 1, NONE, 0));
        x.due("4 did not", p -> p.setNeed(0, 0, 15, true), false);
        x.due("4 does", p -> p.needs(0, 0), 1 << 15);
        x.due("4 only that one", p -> p.needs(0, 15), 0);
        x.due("4 did", p -> p.setNeed(0, 0, 15, true), true);
        x.due("4 did, not any more", p -> p.setNeed(0, 0, 15, false), true);
        x.due("4 does not", p -> p.needs(0, 0), 0);
        x.due("4 did not, not any more", p -> p.setNeed(0, 0, 15, false), false);
        x.due("4 all are changes", p -> p.undo(0), 5);
        x.due("4 nothing became another", p -> p.needs(0, 0), 0);
        x.call(p -> p.undo(0));
        x.due("4 undone", p -> p.needs(0, 0), 1 << 15);
        x.fails("4 branch 1", Check.NO_BRANCH, p -> p.setNeed(1, 16, 16, true));
        x.fails("4 branch -1", Check.NO_BRANCH, p -> p.setNeed(-1, 0, 15, true));
        x.fails("4 task -1", Check.BAD_ARGUMENT, p -> p.setNeed(0, -1, 0, true));
        x.fails("4 task 16", Check.BAD_ARGUMENT, p -> p.setNeed(0, 16, 0, false));
        x.fails("4 other -1", Check.BAD_ARGUMENT, p -> p.setNeed(0, 1, -1, true));
        x.fails("4 other 16", Check.BAD_ARGUMENT, p -> p.setNeed(0, 1, 16, true));
        x.fails("4 the same", Check.BAD_ARGUMENT, p -> p.setNeed(0, 0, 0, false));
        x.fails("4 the same, not there", Check.BAD_ARGUMENT, p -> p.setNeed(0, 7, 7, true));
        x.fails("4 task not there", Check.BAD_STATE, p -> p.setNeed(0, 1, 0, true));
        x.fails("4 other not there", Check.BAD_STATE, p -> p.setNeed(0, 0, 1, true));
        x.fails("4 task not there, false", Check.BAD_STATE, p -> p.setNeed(0, 1, 0, false));
        x.fails("4 other not there, false", Check.BAD_STATE, p -> p.setNeed(0, 0, 1, false));
    }

    private static void setNeedRings() {
        Run x = new Run();
        for (int task : Check.numbers(0, 15)) {
            x.call(p -> p.setTask(0, task, 1, NONE, 0));
        }
        x.call(p -> p.setNeed(0, 0, 1, true));
        x.fails("4 ring of two", Check.BAD_STATE, p -> p.setNeed(0, 1, 0, true));
        x.due("4 no ring if it does not", p -> p.setNeed(0, 1, 0, false), false);
        for (int task : Check.numbers(1, 14)) {
            x.due("4 chain", p -> p.setNeed(0, task, task + 1, true), false);
        }
        x.fails("4 ring of all", Check.BAD_STATE, p -> p.setNeed(0, 15, 0, true));
        x.due("4 along the chain", p -> p.setNeed(0, 0, 15, true), false);
        x.due("4 again", p -> p.setNeed(0, 0, 15, true), true);
        x.call(p -> p.setNeed(0, 7, 8, false));
        x.call(p -> p.setNeed(0, 0, 15, false));
        x.due("4 ring no more", p -> p.setNeed(0, 15, 0, true), false);
        x.due("4 what throws is no change", p -> p.undo(0), 29);
        x.due("4 the latest is undone", p -> p.needs(0, 15), 0);
    }

    private static void undo() {
        Run x = new Run();
        x.call(p -> p.setTask(0, 4, 5, 1, 6));
        x.call(p -> p.setTask(0, 4, 5, 1, 6));
        x.call(p -> p.setTask(0, 4, 9, NONE, 2));
        x.call(p -> p.setTask(0, 5, 2, 0, 1));
        x.call(p -> p.setNeed(0, 4, 5, true));
        x.call(p -> p.setNeed(0, 4, 5, false));
        x.call(p -> p.removeTask(0, 4));
        x.due("5 removal", p -> p.undo(0), 6);
        x.due("5 is there again", p -> p.length(0, 4), 9);
        x.due("5 has no need", p -> p.needs(0, 4), 0);
        x.due("5 need", p -> p.undo(0), 5);
        x.due("5 needs again", p -> p.needs(0, 4), 1 << 5);
        x.due("5 need", p -> p.undo(0), 4);
        x.due("5 needs no more", p -> p.needs(0, 4), 0);
        x.due("5 task", p -> p.undo(0), 3);
        x.due("5 is not there", p -> p.tasks(0), 1 << 4);
        x.due("5 task", p -> p.undo(0), 2);
        x.due("5 length", p -> p.length(0, 4), 5);
        x.due("5 crew", p -> p.crew(0, 4), 1);
        x.due("5 cost", p -> p.cost(0), 30);
        x.due("5 nothing becomes another", p -> p.undo(0), 1);
        x.due("5 still there", p -> p.length(0, 4), 5);
        x.due("5 the first", p -> p.undo(0), 0);
        x.due("5 empty", p -> p.tasks(0), 0);
        x.fails("5 no more", Check.BAD_STATE, p -> p.undo(0));
        x.call(p -> p.setTask(0, 4, 5, 1, 6));
        x.due("5 behind undoing", p -> p.undo(0), 0);
    }

    private static void undoAtMost() {
        Run x = new Run();
        for (int change : Check.numbers(1, 47)) {
            x.call(p -> p.setTask(0, 0, change % 20 + 1, NONE, change));
        }
        for (int left = 29; left >= 10; left--) {
            x.due("5 at most 30", p -> p.undo(0), left);
        }
        for (int change : Check.numbers(1, 7)) {
            x.call(p -> p.setTask(0, 1, change, NONE, 0));
        }
        for (int left = 16; left >= 10; left--) {
            x.due("5 again", p -> p.undo(0), left);
        }
        x.due("5 the other is not there", p -> p.tasks(0), 1);
        for (int left = 9; left >= 0; left--) {
            x.due("5 to the last", p -> p.undo(0), left);
        }
        x.due("5 what is left", p -> p.cost(0), 17 * (17 % 20 + 1));
        x.fails("5 no more than 30", Check.BAD_STATE, p -> p.undo(0));
    }

    private static void undoWrong() {
        Run x = new Run();
        x.call(p -> p.setTask(0, 0, 1, 0, 0));
        x.fails("5 branch -1", Check.NO_BRANCH, p -> p.undo(-1));
        x.fails("5 branch 1", Check.NO_BRANCH, p -> p.undo(1));
        x.call(p -> p.begin(0));
        x.fails("5 a new branch", Check.BAD_STATE, p -> p.undo(1));
        x.fails("5 from which it was begun", Check.BAD_STATE, p -> p.undo(0));
        x.call(p -> p.setTask(0, 1, 1, 0, 0));
        x.fails("5 of another branch", Check.BAD_STATE, p -> p.undo(1));
        x.due("5 of this branch", p -> p.undo(0), 0);
    }

    private static void asksOfTasks() {
        Run x = new Run();
        x.call(p -> p.setTask(0, 0, 2, 4, 0));
        x.call(p -> p.setTask(0, 9, 20, NONE, 0));
        x.call(p -> p.setTask(0, 15, 1, 0, 0));
        x.call(p -> p.setNeed(0, 0, 9, true));
        x.call(p -> p.setNeed(0, 0, 15, true));
        x.due("6 tasks", p -> p.tasks(0), Check.bits(0, 9, 15));
        x.due("7 length", p -> p.length(0, 0), 2);
        x.due("7 length", p -> p.length(0, 9), 20);
        x.due("7 length", p -> p.length(0, 15), 1);
        x.due("7 not there", p -> p.length(0, 1), 0);
        x.due("8 crew", p -> p.crew(0, 0), 4);
        x.due("8 no crew", p -> p.crew(0, 9), NONE);
        x.due("8 crew 0", p -> p.crew(0, 15), 0);
        x.due("8 not there", p -> p.crew(0, 14), NONE);
        x.due("9 needs", p -> p.needs(0, 0), Check.bits(9, 15));
        x.due("9 no needs", p -> p.needs(0, 9), 0);
        x.due("9 not there", p -> p.needs(0, 8), 0);
        x.call(p -> p.begin(0));
        x.call(p -> p.removeTask(1, 0));
        x.due("6 another branch", p -> p.tasks(1), Check.bits(9, 15));
        x.due("6 the first", p -> p.tasks(0), Check.bits(0, 9, 15));
    }

    private static void asksWrong() {
        Run x = new Run();
        x.call(p -> p.setTask(0, 0, 2, 4, 0));
        x.fails("6 branch -1", Check.NO_BRANCH, p -> p.tasks(-1));
        x.fails("6 branch 1", Check.NO_BRANCH, p -> p.tasks(1));
        x.fails("7 branch 1", Check.NO_BRANCH, p -> p.length(1, 16));
        x.fails("7 branch -1", Check.NO_BRANCH, p -> p.length(-1, 0));
        x.fails("7 task -1", Check.BAD_ARGUMENT, p -> p.length(0, -1));
        x.fails("7 task 16", Check.BAD_ARGUMENT, p -> p.length(0, 16));
        x.fails("8 branch 1", Check.NO_BRANCH, p -> p.crew(1, -1));
        x.fails("8 branch -1", Check.NO_BRANCH, p -> p.crew(-1, 0));
        x.fails("8 task -1", Check.BAD_ARGUMENT, p -> p.crew(0, -1));
        x.fails("8 task 16", Check.BAD_ARGUMENT, p -> p.crew(0, 16));
        x.fails("9 branch 1", Check.NO_BRANCH, p -> p.needs(1, 16));
        x.fails("9 branch -1", Check.NO_BRANCH, p -> p.needs(-1, 0));
        x.fails("9 task -1", Check.BAD_ARGUMENT, p -> p.needs(0, -1));
        x.fails("9 task 16", Check.BAD_ARGUMENT, p -> p.needs(0, 16));
        x.fails("10 branch -1", Check.NO_BRANCH, p -> p.cost(-1));
        x.fails("10 branch 1", Check.NO_BRANCH, p -> p.cost(1));
    }

    private static void cost() {
        Run x = new Run();
        x.call(p -> p.setTask(0, 2, 3, NONE, 7));
        x.call(p -> p.setTask(0, 3, 5, NONE, 0));
        x.call(p -> p.setTask(0, 4, 2, 1, 100));
        x.due("10 cost", p -> p.cost(0), 221);
        x.call(p -> p.removeTask(0, 2));
        x.due("10 cost behind a removal", p -> p.cost(0), 200);
        for (int task : Check.numbers(0, 15)) {
            x.call(p -> p.setTask(0, task, 20, NONE, 1000));
        }
        x.due("10 greatest cost", p -> p.cost(0), 320000);
    }
}
