/** The boundary cases of branches, one sentence of the document after the other: "Terms" and promises 11 to 20. */
public final class BranchBoundsTest {
    private static final int NONE = PlanBranches.NONE;
    private static final int OWN = PlanBranches.OWN;
    private static final int PARENT = PlanBranches.PARENT;
    private static final int CLASH = PlanBranches.CLASH;
    private static final int MISSING = PlanBranches.MISSING;
    private static final int RING = PlanBranches.RING;
    private static final int BUDGET = PlanBranches.BUDGET;
    private static final int STUCK = PlanBranches.STUCK;
    private static final int ALL = 65535;

    public static void main(String[] args) {
        eightBranches();
        withItsPlan();
        base();
        nothingUndoneAnyMore();
        stillUndone();
        nothingToBeUndone();
        sameTasks();
        takenFromOnePlan();
        clashesIfNotThere();
        clashesIfRemoved();
        mixedParts();
        mixedNeeds();
        takenAsAWhole();
        behindBoth();
        resolutionsForgotten();
        resolutionsKept();
        notDone();
        clashReason();
        missingReason();
        ringReason();
        budgetReason();
        stuckReason();
        firstReason();
        newBudget();
        parents();
        budgets();
        resolve();
        clashes();
        reasonTask();
        mergeCounts();
        updateCounts();
        Check.end();
    }

    private static Run withBranches(int count) {
        Run x = new Run();
        for (int branch : Check.numbers(1, count - 1)) {
            x.call(p -> p.begin(0));
        }
        return x;
    }

    /** The branch 0 with so many tasks of 5 days without a crew, and a branch 1 with its plan. */
    private static Run withTasks(int count) {
        Run x = new Run();
        for (int task : Check.numbers(0, count - 1)) {
            x.call(p -> p.setTask(0, task, 5, NONE, 10));
        }
        x.call(p -> p.begin(0));
        return x;
    }

    private static void eightBranches() {
        Check.of("Terms", "Branches are numbered from 0; the branch 0 is there from the beginning, with an empty plan;"
                + " at most 8 are ever begun, it included.");
        Run x = new Run();
        x.due("one", p -> p.branches(), 1);
        for (int branch : Check.numbers(1, 7)) {
            x.fails("not yet there", Check.NO_BRANCH, p -> p.tasks(branch));
            x.due("number", p -> p.begin(branch - 1), branch);
            x.due("there", p -> p.tasks(branch), 0);
            x.due("that many", p -> p.branches(), branch + 1);
        }
        x.call(p -> p.setTask(7, 15, 20, 4, 1000));
        x.fails("a ninth from the first", Check.BAD_STATE, p -> p.begin(0));
        x.fails("a ninth from the last", Check.BAD_STATE, p -> p.begin(7));
        x.fails("from a ninth", Check.NO_BRANCH, p -> p.begin(8));
        x.fails("no ninth", Check.NO_BRANCH, p -> p.tasks(8));
        x.due("still eight", p -> p.branches(), 8);
        x.due("the last one", p -> p.undo(7), 0);
        x.due("merged still", p -> p.merge(7), 0);
        x.fails("eight for ever", Check.BAD_STATE, p -> p.begin(0));
    }

    private static void withItsPlan() {
        Check.of("Terms", "Each other one is begun from a branch, its parent, with its plan.");
        Run x = new Run();
        x.call(p -> p.begin(0));
        x.due("of an empty plan", p -> p.tasks(1), 0);
        for (int task : Check.numbers(0, 15)) {
            x.call(p -> p.setTask(1, task, task + 1, task % 6 - 1, 1000 - task));
            for (int need : Check.numbers(Math.max(0, task - 2), task - 1)) {
                x.call(p -> p.setNeed(1, task, need, true));
            }
        }
        x.call(p -> p.begin(1));
        for (int task : Check.numbers(0, 15)) {
            x.due("length", p -> p.length(2, task), task + 1);
            x.due("crew", p -> p.crew(2, task), task % 6 - 1);
            x.due("needs", p -> p.needs(2, task), task == 0 ? 0 : task == 1 ? 1 : 3 << task - 2);
        }
        x.due("cost", p -> p.cost(2), x.again().cost(1));
        x.due("not that of its parent's parent", p -> p.tasks(0), 0);
        x.call(p -> p.setTask(1, 0, 20, 0, 0));
        x.call(p -> p.setTask(2, 1, 20, 0, 0));
        x.due("then each has its own", p -> p.length(2, 0), 1);
        x.due("then each has its own", p -> p.length(1, 1), 2);
    }

    private static void base() {
        Check.of("Terms", "A branch has a plan, and, but for the branch 0, a base, which is the plan of its parent"
                + " as it was when the branch was begun, brought up to date or merged last.");
        Run begun = withTasks(1);
        // Both are others than the base, and not the same, if the base is 5 days long; else one is as the base.
        begun.call(p -> p.setTask(0, 0, 6, NONE, 10));
        begun.due("the parent alone is another", p -> p.clashes(1), 0);
        begun.call(p -> p.setTask(1, 0, 7, NONE, 10));
        begun.due("both are others than when it was begun", p -> p.clashes(1), 1);
        begun.call(p -> p.setTask(0, 0, 5, NONE, 10));
        begun.due("the parent is as when it was begun", p -> p.clashes(1), 0);
        begun.call(p -> p.undo(0));
        begun.due("undoing in the parent is no other base", p -> p.clashes(1), 1);
        begun.fails("what is not merged is no other base", Check.BAD_STATE, p -> p.merge(1));
        begun.fails("what is not brought up to date is no other base", Check.BAD_STATE, p -> p.update(1));
        begun.call(p -> p.setTask(1, 0, 5, NONE, 10));
        begun.due("the own one is as when it was begun", p -> p.clashes(1), 0);
        Run undone = withTasks(1);
        undone.call(p -> p.setTask(1, 0, 7, NONE, 10));
        undone.call(p -> p.setTask(1, 0, 8, NONE, 10));
        undone.call(p -> p.undo(1));
        undone.due("undoing in the branch is no other base", p -> p.update(1), 0);
        undone.due("undoing in the branch is no other base", p -> p.length(1, 0), 7);

        Run updated = withTasks(1);
        updated.call(p -> p.setTask(0, 0, 6, NONE, 10));
        updated.due("brought up to date", p -> p.update(1), 1);
        updated.call(p -> p.setTask(1, 0, 7, NONE, 10));
        updated.due("the parent is as it was then", p -> p.clashes(1), 0);
        updated.due("brought up to date with nothing new", p -> p.update(1), 0);
        updated.call(p -> p.setTask(0, 0, 8, NONE, 10));
        updated.due("the base is the parent's, not the own one", p -> p.clashes(1), 1);
        updated.call(p -> p.setTask(1, 0, 6, NONE, 10));
        updated.due("the own one is as the parent was then", p -> p.clashes(1), 0);

        Run merged = withTasks(1);
        merged.call(p -> p.setTask(1, 0, 6, NONE, 10));
        merged.due("merged", p -> p.merge(1), 1);
        merged.call(p -> p.setTask(0, 0, 7, NONE, 10));
        merged.due("the own one is as it was then", p -> p.clashes(1), 0);
        merged.call(p -> p.setTask(1, 0, 8, NONE, 10));
        merged.due("both are others than then", p -> p.clashes(1), 1);
        merged.call(p -> p.setTask(0, 0, 6, NONE, 10));
        merged.due("the parent is as it was then", p -> p.clashes(1), 0);
        merged.due("of the branch 0", p -> p.clashes(0), 0);
    }

    /** A branch 0, its child 1 and that one's child 2, each with three changes. */
    private static Run changed() {
        Run x = new Run();
        x.call(p -> p.begin(0));
        x.call(p -> p.begin(1));
        for (int branch : Check.numbers(0, 2)) {
            for (int change : Check.numbers(1, 3)) {
                x.call(p -> p.setTask(branch, 5 * branch + change, change, NONE, 1));
            }
        }
        return x;
    }

    private static void undone(Run x, int of0, int of1, int of2) {
        int[] due = {of0, of1, of2};
        for (int branch : Check.numbers(0, 2)) {
            Run y = x.copy();
            for (int left = due[branch] - 1; left >= 0; left--) {
                y.due("branch " + branch, p -> p.undo(branch), left);
            }
            y.fails("branch " + branch, Check.BAD_STATE, p -> p.undo(branch));
        }
    }

    private static void nothingUndoneAnyMore() {
        Check.of("Terms", "to begin a branch from it, to bring it up to date, and to merge it, or another one into it,"
                + " lets no earlier change of its be undone any more.");
        undone(changed(), 3, 3, 3);
        Run begun = changed();
        begun.call(p -> p.begin(1));
        undone(begun, 3, 0, 3);
        begun.call(p -> p.setTask(1, 15, 1, NONE, 1));
        undone(begun, 3, 1, 3);

        Run updated = changed();
        updated.due("brought up to date", p -> p.update(1), 3);
        undone(updated, 3, 0, 3);
        updated.call(p -> p.setTask(1, 15, 1, NONE, 1));
        updated.call(p -> p.setTask(1, 15, 2, NONE, 1));
        undone(updated, 3, 2, 3);
        updated.call(p -> p.update(1));
        updated.due("brought up to date, with nothing new", p -> p.update(1), 0);
        undone(updated, 3, 0, 3);

        Run merged = changed();
        merged.due("merged, and another one merged into", p -> p.merge(1), 3);
        undone(merged, 0, 0, 3);
        merged.call(p -> p.setTask(0, 15, 1, NONE, 1));
        merged.call(p -> p.setTask(1, 14, 1, NONE, 1));
        undone(merged, 1, 1, 3);
        merged.due("the grandchild merged", p -> p.merge(2), 3);
        undone(merged, 1, 0, 0);

        Run sibling = changed();
        sibling.call(p -> p.begin(0));
        sibling.call(p -> p.setTask(3, 15, 1, NONE, 1));
        sibling.call(p -> p.setTask(3, 14, 1, NONE, 1));
        sibling.call(p -> p.update(1));
        sibling.call(p -> p.merge(1));
        sibling.call(p -> p.begin(1));
        undone(sibling, 0, 0, 3);
        sibling.due("not that of a sibling", p -> p.undo(3), 1);

        Run same = withTasks(1);
        same.call(p -> p.setTask(0, 0, 5, NONE, 10));
        same.call(p -> p.setTask(1, 0, 5, NONE, 10));
        same.due("merged, though nothing becomes another", p -> p.merge(1), 0);
        same.fails("of the branch", Check.BAD_STATE, p -> p.undo(1));
        same.fails("of the parent", Check.BAD_STATE, p -> p.undo(0));
    }

    private static void stillUndone() {
        Check.of("Terms", "A call that throws changes nothing.");
        Run x = changed();
        x.call(p -> p.setTask(0, 0, 1, NONE, 1));
        x.call(p -> p.setTask(1, 0, 2, NONE, 1));
        x.call(p -> p.setTask(2, 0, 3, NONE, 1));
        for (int branch : Check.numbers(1, 2)) {
            x.fails("not merged", Check.BAD_STATE, p -> p.merge(branch));
            x.fails("not brought up to date", Check.BAD_STATE, p -> p.update(branch));
        }
        x.due("what is asked for", p -> p.reason(1, true), CLASH);
        undone(x, 4, 4, 4);
        for (int branch : Check.numbers(3, 7)) {
            x.call(p -> p.begin(branch == 3 ? 0 : 3));
        }
        x.fails("not begun", Check.BAD_STATE, p -> p.begin(2));
        undone(x, 0, 4, 4);
    }

    private static void nothingToBeUndone() {
        Check.of("Terms", "A branch that is begun has nothing to be undone.");
        Run x = new Run();
        for (int change : Check.numbers(1, 31)) {
            x.call(p -> p.setTask(0, 0, change % 20 + 1, NONE, 1));
        }
        x.call(p -> p.begin(0));
        x.fails("of the new one", Check.BAD_STATE, p -> p.undo(1));
        for (int change : Check.numbers(1, 31)) {
            x.call(p -> p.setTask(1, 1, change % 20 + 1, NONE, 1));
        }
        for (int left = 29; left >= 0; left--) {
            x.due("thirty of its own", p -> p.undo(1), left);
        }
        x.fails("no more", Check.BAD_STATE, p -> p.undo(1));
        x.call(p -> p.begin(1));
        x.fails("of its child", Check.BAD_STATE, p -> p.undo(2));
    }

    private static void sameTasks() {
        Check.of("Terms", "A task in two plans is the same, if it is there in neither, or in both with the same length,"
                + " crew, cost and needs.");
        Run x = new Run();
        x.call(p -> p.begin(0));
        x.due("in neither", p -> p.clashes(1), 0);
        x.call(p -> p.setTask(0, 9, 1, NONE, 0));
        x.call(p -> p.setTask(0, 0, 3, NONE, 7));
        x.call(p -> p.setTask(1, 0, 3, NONE, 7));
        x.due("in both", p -> p.clashes(1), 0);
        int[][] parts = {{2, NONE, 7}, {4, NONE, 7}, {3, 0, 7}, {3, 4, 7}, {3, NONE, 6}, {3, NONE, 8}, {3, NONE, 0}};
        for (int[] part : parts) {
            x.call(p -> p.setTask(1, 0, part[0], part[1], part[2]));
            x.due("another part", p -> p.clashes(1), 1);
            x.call(p -> p.setTask(1, 0, 3, NONE, 7));
            x.due("the same again", p -> p.clashes(1), 0);
        }
        x.call(p -> p.setNeed(0, 0, 9, true));
        x.due("another need", p -> p.clashes(1), 1);
        x.call(p -> p.removeTask(1, 0));
        x.due("in one alone", p -> p.clashes(1), 0);
        x.call(p -> p.setNeed(0, 0, 9, false));
        x.call(p -> p.removeTask(0, 0));
        x.due("in neither again", p -> p.clashes(1), 0);
        x.due("the one that is left", p -> p.update(1), 1);
        x.due("the one that is left", p -> p.tasks(1), Check.bits(9));
    }

    private static void takenFromOnePlan() {
        Check.of("Terms", "If it is the same in the own plan and the base, it is taken from the other plan; otherwise, if it"
                + " is the same in the other plan and the base, or in both plans, from the own one.");
        for (int task : new int[] {0, 15}) {
            for (int base : Check.numbers(0, 2)) {
                for (int own : Check.numbers(0, 2)) {
                    for (int other : Check.numbers(0, 2)) {
                        if (own == base || other == base || own == other) {
                            takenFromOnePlan(task, base, own, other);
                        }
                    }
                }
            }
        }
    }

    /** In each plan the task is of so many days, and not there without a day. */
    private static void takenFromOnePlan(int task, int base, int own, int other) {
        Run x = new Run();
        setOrRemove(x, 0, task, base);
        x.call(p -> p.begin(0));
        setOrRemove(x, 0, task, other);
        setOrRemove(x, 1, task, own);
        int got = own == base ? other : own;
        String of = "task " + task + ", base " + base + ", own " + own + ", other " + other;
        x.due(of, p -> p.clashes(1), 0);
        Run y = x.copy();
        y.due(of + " brought up to date", p -> p.update(1), got == own ? 0 : 1);
        y.due(of + " brought up to date", p -> p.length(1, task), got);
        y.due(of + " in the parent still", p -> p.length(0, task), other);
        x.due(of + " merged", p -> p.merge(1), got == other ? 0 : 1);
        x.due(of + " merged", p -> p.length(0, task), got);
        x.due(of + " merged", p -> p.length(1, task), got);
    }

    private static void setOrRemove(Run x, int branch, int task, int length) {
        if (length > 0) {
            x.call(p -> p.setTask(branch, task, length, NONE, 1));
        } else if ((x.again().tasks(branch) >> task & 1) != 0) {
            x.call(p -> p.removeTask(branch, task));
        }
    }

    private static void clashesIfNotThere() {
        Check.of("Terms", "Otherwise, if it is not there in one of the three, it clashes.");
        // Of each task: its lengths in the base, in the parent and in the branch; 0 if it is not there.
        int[][] lengths = {
            {0, 0, 0, 0}, {0, 0, 2, 0}, {0, 2, 0, 0}, {0, 2, 2, 0}, {0, 2, 3, 1},
            {2, 0, 0, 0}, {2, 0, 2, 0}, {2, 2, 0, 0}, {2, 0, 3, 1}, {2, 3, 0, 1},
            {2, 2, 2, 0}, {2, 2, 3, 0}, {2, 3, 2, 0}, {2, 3, 3, 0}, {2, 3, 4, 1}, {0, 20, 1, 1},
        };
        Run x = new Run();
        setAll(x, 0, lengths, 0);
        x.call(p -> p.begin(0));
        setAll(x, 0, lengths, 1);
        setAll(x, 1, lengths, 2);
        int due = 0;
        for (int task : Check.numbers(0, 15)) {
            due |= lengths[task][3] << task;
        }
        x.due("those that clash", p -> p.clashes(1), due);
        for (int side : new int[] {OWN, PARENT}) {
            Run y = x.copy();
            for (int task : Check.numbers(0, 15)) {
                y.call(p -> p.resolve(1, task, side));
            }
            y.call(p -> p.update(1));
            for (int task : Check.numbers(0, 15)) {
                int[] of = lengths[task];
                int got = of[3] == 1 ? (side == OWN ? of[2] : of[1]) : of[2] == of[0] ? of[1] : of[2];
                y.due("task " + task + " to side " + side, p -> p.length(1, task), got);
            }
        }
    }

    /** In one plan the task is removed, in the other one just a single part of it is another. */
    private static void clashesIfRemoved() {
        Check.of("Terms", "Otherwise, if it is not there in one of the three, it clashes.");
        int[][] parts = {{6, NONE, 10}, {5, 0, 10}, {5, NONE, 0}, {5, NONE, 10}};
        for (int removes : Check.numbers(0, 1)) {
            for (int part : Check.numbers(0, 3)) {
                Run x = withTasks(2);
                x.call(p -> p.removeTask(removes, 0));
                x.due("removed in one alone", p -> p.clashes(1), 0);
                x.call(p -> p.setTask(1 - removes, 0, parts[part][0], parts[part][1], parts[part][2]));
                if (part == 3) {
                    x.due("the other is not another", p -> p.clashes(1), 0);
                    x.call(p -> p.setNeed(1 - removes, 0, 1, true));
                }
                x.due("a part of the other is another", p -> p.clashes(1), 1);
                x.due("neither is it mixed", p -> p.reason(1, true), CLASH);
                x.call(p -> p.removeTask(1 - removes, 0));
                x.due("removed in both", p -> p.clashes(1), 0);
            }
        }
        // In the base it is not there, and both have just one part that is not as in the other one.
        for (int part : Check.numbers(0, 2)) {
            Run x = withTasks(0);
            x.call(p -> p.setTask(0, 15, 5, NONE, 10));
            x.call(p -> p.setTask(1, 15, parts[part][0], parts[part][1], parts[part][2]));
            x.due("new in both", p -> p.clashes(1), 1 << 15);
            x.call(p -> p.setTask(1, 15, 5, NONE, 10));
            x.due("new and the same in both", p -> p.clashes(1), 0);
        }
    }

    private static void setAll(Run x, int branch, int[][] lengths, int which) {
        for (int task : Check.numbers(0, 15)) {
            setOrRemove(x, branch, task, lengths[task][which]);
        }
    }

    /** Each part at the ends of its range: in the base, in the own plan and in the other one. */
    private static void mixedParts() {
        Check.of("Terms", "the length is that of the other plan, if the own one has that of the base; that of the own plan,"
                + " if the other one has that of the base, or both are the same; otherwise the task clashes; likewise the"
                + " crew and the cost;");
        int[][] values = {{1, 20, 7}, {NONE, 0, 4}, {0, 1000, 1}};
        for (int part : Check.numbers(0, 2)) {
            for (int base : values[part]) {
                for (int own : values[part]) {
                    for (int other : values[part]) {
                        mixed(part, base, own, other);
                    }
                }
            }
        }
    }

    /** A need that the own plan alone has, and one that the other alone has, keep the task from being the same in two of the three. */
    private static void mixed(int part, int base, int own, int other) {
        Run x = new Run();
        for (int task : Check.numbers(1, 2)) {
            x.call(p -> p.setTask(0, task, 1, NONE, 0));
        }
        setPart(x, 0, part, base);
        x.call(p -> p.begin(0));
        for (int crew : Check.numbers(0, 4)) {
            x.call(p -> p.lend(crew, 1, 200, 399));
        }
        setPart(x, 0, part, other);
        setPart(x, 1, part, own);
        x.call(p -> p.setNeed(1, 0, 1, true));
        x.call(p -> p.setNeed(0, 0, 2, true));
        String of = "base " + base + ", own " + own + ", other " + other;
        boolean clash = own != base && other != base && own != other;
        x.due(of, p -> p.clashes(1), clash ? 1 : 0);
        x.due(of, p -> p.reason(1, false), clash ? CLASH : 0);
        if (!clash) {
            int got = own == base ? other : own;
            x.due(of, p -> p.update(1), 1);
            x.due(of + " length", p -> p.length(1, 0), part == 0 ? got : 5);
            x.due(of + " crew", p -> p.crew(1, 0), part == 1 ? got : 2);
            x.due(of + " cost", p -> p.cost(1), (part == 0 ? got : 5) * (part == 2 ? got : 50));
            x.due(of + " needs", p -> p.needs(1, 0), Check.bits(1, 2));
        }
    }

    private static void setPart(Run x, int branch, int part, int value) {
        x.call(p -> p.setTask(branch, 0, part == 0 ? value : 5, part == 1 ? value : 2, part == 2 ? value : 50));
    }

    private static void mixedNeeds() {
        Check.of("Terms", "and each need is there or not as in the own plan, if that is otherwise in it than in the base,"
                + " otherwise as in the other plan.");
        Run x = new Run();
        for (int task : Check.numbers(0, 15)) {
            x.call(p -> p.setTask(0, task, 1, NONE, 0));
        }
        // The need 8 + c: bit 2 of c tells whether it is in the base, bit 1 in the own plan, bit 0 in the other one.
        Run y = x.copy();
        setNeeds(y, 0, need -> need >= 8 && (need & 4) != 0);
        y.call(p -> p.begin(0));
        setNeeds(y, 1, need -> need >= 8 && (need & 2) != 0);
        setNeeds(y, 0, need -> need >= 8 && (need & 1) != 0);
        y.due("none clashes", p -> p.clashes(1), 0);
        y.due("one task", p -> p.update(1), 1);
        y.due("each need", p -> p.needs(1, 0), Check.bits(8 + 1, 8 + 2, 8 + 3, 8 + 7));

        Run all = x.copy();
        all.call(p -> p.begin(0));
        setNeeds(all, 1, need -> need < 8);
        setNeeds(all, 0, need -> need >= 8);
        all.call(p -> p.update(1));
        all.due("all needs", p -> p.needs(1, 0), ALL - 1);

        Run none = x.copy();
        setNeeds(none, 0, need -> true);
        none.call(p -> p.begin(0));
        setNeeds(none, 1, need -> need < 8);
        setNeeds(none, 0, need -> need >= 8);
        none.call(p -> p.update(1));
        none.due("no need", p -> p.needs(1, 0), 0);
        none.due("merged", p -> p.merge(1), 1);
        none.due("no need of the parent", p -> p.needs(0, 0), 0);
    }

    private interface Wanted {
        boolean is(int need);
    }

    /** Lets the task 0 need just the wanted ones of the tasks 1 to 15. */
    private static void setNeeds(Run x, int branch, Wanted wanted) {
        for (int need : Check.numbers(1, 15)) {
            x.call(p -> p.setNeed(branch, 0, need, wanted.is(need)));
        }
    }

    private static void takenAsAWhole() {
        Check.of("Terms", "then, if it clashes, it is taken from that one as a whole.");
        for (int side : new int[] {OWN, PARENT}) {
            Run x = withTasks(16);
            x.call(p -> p.setTask(0, 0, 6, NONE, 99));
            x.call(p -> p.setNeed(0, 0, 14, true));
            x.call(p -> p.setTask(1, 0, 7, NONE, 10));
            x.call(p -> p.setNeed(1, 0, 15, true));
            x.call(p -> p.setTask(1, 1, 5, NONE, 20));
            x.call(p -> p.setTask(0, 2, 5, NONE, 30));
            x.call(p -> p.setTask(0, 3, 8, NONE, 10));
            x.call(p -> p.setTask(1, 3, 5, NONE, 40));
            x.call(p -> p.removeTask(side == OWN ? 1 : 0, 5));
            x.call(p -> p.setTask(side == OWN ? 0 : 1, 5, 20, NONE, 10));
            for (int task : Check.numbers(0, 15)) {
                x.call(p -> p.resolve(1, task, side));
            }
            x.due("those that clash", p -> p.clashes(1), Check.bits(0, 5));
            x.due("brought up to date", p -> p.update(1), side == OWN ? 2 : 4);
            x.due("length", p -> p.length(1, 0), side == OWN ? 7 : 6);
            x.due("needs", p -> p.needs(1, 0), side == OWN ? 1 << 15 : 1 << 14);
            x.due("removed", p -> p.tasks(1), ALL - Check.bits(5));
            x.due("what does not clash is mixed", p -> p.length(1, 3), 8);
            int rest = 5 * 20 + 5 * 30 + 8 * 40 + 11 * 50;
            x.due("cost", p -> p.cost(1), rest + (side == OWN ? 7 * 10 : 6 * 99));
        }
    }

    private static void behindBoth() {
        Check.of("Terms", "Behind both the base of the branch is the plan of the parent; behind a merge the plan of the"
                + " branch is that as well;");
        for (int merges : Check.numbers(0, 1)) {
            Run x = withTasks(4);
            x.call(p -> p.begin(1));
            x.call(p -> p.begin(0));
            x.call(p -> p.setTask(0, 0, 6, NONE, 10));
            x.call(p -> p.setTask(1, 1, 7, NONE, 10));
            x.call(p -> p.removeTask(0, 2));
            x.call(p -> p.setTask(1, 15, 8, NONE, 10));
            x.due("others", p -> merges == 1 ? p.merge(1) : p.update(1), 2);
            x.due("the branch", p -> p.tasks(1), Check.bits(0, 1, 3, 15));
            x.due("what is new of the parent", p -> p.length(1, 0), 6);
            x.due("what is new of the branch", p -> p.length(1, 1), 7);
            x.due("the parent", p -> p.tasks(0), merges == 1 ? Check.bits(0, 1, 3, 15) : Check.bits(0, 1, 3));
            x.due("the parent", p -> p.length(0, 1), merges == 1 ? 7 : 5);
            for (int branch : Check.numbers(2, 3)) {
                x.due("neither the child nor the sibling", p -> p.tasks(branch), 15);
                x.due("neither the child nor the sibling", p -> p.length(branch, 0), 5);
            }
            x.due("nothing new any more", p -> p.update(1), 0);
            x.due("new for the child", p -> p.update(2), 4);
            x.due("new for the sibling", p -> p.update(3), merges == 1 ? 4 : 2);
            x.due("what the parent lacks", p -> p.merge(1), merges == 1 ? 0 : 2);
        }
    }

    private static void resolutionsForgotten() {
        Check.of("Terms", "resolutions of the branch are forgotten.");
        for (int merges : Check.numbers(0, 1)) {
            for (int fresh : Check.numbers(0, 1)) {
                Run x = withTasks(16);
                if (fresh == 1) {
                    x.call(p -> p.setTask(0, 4, 6, NONE, 10));
                    x.call(p -> p.setTask(1, 4, 7, NONE, 10));
                }
                for (int task : Check.numbers(0, 15)) {
                    x.call(p -> p.resolve(1, task, task % 2));
                }
                x.due("joined", p -> merges == 1 ? p.merge(1) : p.update(1), merges == 1 ? fresh : 0);
                for (int task : Check.numbers(0, 15)) {
                    x.due("of task " + task, p -> p.resolve(1, task, NONE), NONE);
                }
                x.call(p -> p.setTask(0, 4, 8, NONE, 10));
                x.call(p -> p.setTask(1, 4, 9, NONE, 10));
                x.due("a new clash is not resolved", p -> p.reason(1, true), CLASH);
            }
        }
    }

    private static void resolutionsKept() {
        Check.of("Promise 15", "it stays resolved until resolutions of the branch are forgotten.");
        Run x = withTasks(2);
        x.call(p -> p.begin(1));
        for (int task : Check.numbers(0, 15)) {
            x.call(p -> p.resolve(1, task, (task + 1) % 2));
        }
        x.call(p -> p.setTask(0, 0, 6, NONE, 10));
        x.call(p -> p.setTask(1, 0, 7, NONE, 10));
        x.call(p -> p.setTask(1, 0, 5, NONE, 10));
        x.call(p -> p.removeTask(1, 0));
        x.call(p -> p.undo(1));
        x.call(p -> p.setNeed(1, 0, 1, true));
        x.call(p -> p.setTask(0, 1, 20, 3, 10));
        x.call(p -> p.setBudget(1, 0));
        x.fails("not brought up to date", Check.BAD_STATE, p -> p.update(1));
        x.call(p -> p.setBudget(0, 0));
        x.fails("not merged", Check.BAD_STATE, p -> p.merge(1));
        x.call(p -> p.setBudget(1, 1000000));
        x.call(p -> p.give(0, 1));
        x.call(p -> p.lend(0, 1, 0, 399));
        x.call(p -> p.begin(1));
        x.call(p -> p.setTask(2, 9, 1, NONE, 1));
        x.due("a child is brought up to date", p -> p.update(2), 1);
        x.due("a child is merged into it", p -> p.merge(2), 1);
        for (int task : Check.numbers(0, 15)) {
            x.due("of task " + task, p -> p.resolve(1, task, NONE), (task + 1) % 2);
            x.due("not any more", p -> p.resolve(1, task, NONE), NONE);
        }
    }

    private static void notDone() {
        Check.of("Terms", "Neither is done, if there is a reason against it");
        for (int reason : Check.numbers(0, 5)) {
            Run x = withReason(reason);
            for (int merges : Check.numbers(0, 1)) {
                x.due("the reason", p -> p.reason(1, merges == 1), reason);
            }
            if (reason == 0) {
                x.due("brought up to date", p -> p.update(1), 1);
                x.due("merged", p -> p.merge(1), 1);
            } else {
                x.fails("merge", Check.BAD_STATE, p -> p.merge(1));
                x.fails("update", Check.BAD_STATE, p -> p.update(1));
                undoneThere(x);
            }
        }
    }

    /** Both plans have a task of their own that is new, and something to be undone. */
    private static Run withReason(int reason) {
        Run x = withTasks(3);
        x.call(p -> p.setTask(0, 14, 1, NONE, 0));
        x.call(p -> p.setTask(1, 15, 1, NONE, 0));
        if (reason == CLASH) {
            x.call(p -> p.setTask(0, 0, 6, NONE, 10));
            x.call(p -> p.setTask(1, 0, 7, NONE, 10));
        } else if (reason == MISSING) {
            x.call(p -> p.removeTask(0, 0));
            x.call(p -> p.setNeed(1, 1, 0, true));
        } else if (reason == RING) {
            x.call(p -> p.setNeed(0, 0, 1, true));
            x.call(p -> p.setNeed(1, 1, 0, true));
        } else if (reason == BUDGET) {
            x.call(p -> p.setBudget(0, 149));
            x.call(p -> p.setBudget(1, 149));
        } else if (reason == STUCK) {
            x.call(p -> p.lend(4, 0, 0, 199));
            x.call(p -> p.begin(0));
            x.call(p -> p.give(4, 2));
            x.call(p -> p.lend(4, 2, 0, 399));
            x.call(p -> p.setTask(0, 14, 1, 4, 0));
        }
        x.call(p -> p.resolve(1, 9, PARENT));
        return x;
    }

    private static void undoneThere(Run x) {
        x.due("the parent's new task", p -> p.length(0, 14), 1);
        x.due("not the branch's", p -> p.length(0, 15), 0);
        x.due("the branch's new task", p -> p.length(1, 15), 1);
        x.due("not the parent's", p -> p.length(1, 14), 0);
        x.due("still resolved", p -> p.resolve(1, 9, NONE), PARENT);
    }

    private static void clashReason() {
        Check.of("Terms", "CLASH, some task clashes, and is not resolved;");
        for (int task : new int[] {0, 15}) {
            Run x = withTasks(16);
            x.due("none clashes", p -> p.reason(1, true), 0);
            x.call(p -> p.setTask(0, task, 6, NONE, 10));
            x.due("one is another in one plan", p -> p.reason(1, true), 0);
            x.call(p -> p.setTask(1, task, 7, NONE, 10));
            x.due("one clashes", p -> p.reason(1, true), CLASH);
            x.due("the task", p -> p.reasonTask(1, true), task);
            for (int other : Check.numbers(0, 15)) {
                if (other != task) {
                    x.call(p -> p.resolve(1, other, OWN));
                }
            }
            x.due("all others are resolved", p -> p.reason(1, false), CLASH);
            x.call(p -> p.resolve(1, task, OWN));
            x.due("it is resolved", p -> p.reason(1, false), 0);
            x.call(p -> p.resolve(1, task, NONE));
            x.due("it is not resolved any more", p -> p.reason(1, false), CLASH);
            x.call(p -> p.resolve(1, task, PARENT));
            x.due("it is resolved otherwise", p -> p.reason(1, true), 0);
            x.call(p -> p.resolve(1, task, NONE));
            x.call(p -> p.setTask(1, task, 6, NONE, 10));
            x.due("it clashes no more", p -> p.reason(1, true), 0);
        }
    }

    private static void missingReason() {
        Check.of("Terms", "MISSING, some task needs one that would not be there;");
        for (int gone : new int[] {0, 15}) {
            int needs = 15 - gone;
            Run x = withTasks(16);
            x.call(p -> p.removeTask(0, gone));
            x.due("none needs it", p -> p.reason(1, false), 0);
            x.call(p -> p.setNeed(1, needs, gone, true));
            for (int merges : Check.numbers(0, 1)) {
                x.due("one needs it", p -> p.reason(1, merges == 1), MISSING);
                x.due("the task", p -> p.reasonTask(1, merges == 1), needs);
            }
            x.call(p -> p.setNeed(1, 7, needs, true));
            x.due("not that which needs it over others", p -> p.reasonTask(1, true), needs);
            x.call(p -> p.setTask(0, gone, 5, NONE, 10));
            x.due("it would be there", p -> p.reason(1, true), 0);
            x.call(p -> p.undo(0));
            x.call(p -> p.setTask(1, gone, 6, NONE, 10));
            x.due("it clashes", p -> p.reason(1, true), CLASH);
            x.call(p -> p.resolve(1, gone, PARENT));
            x.due("it is not there in that one", p -> p.reason(1, true), MISSING);
            x.call(p -> p.resolve(1, gone, OWN));
            x.due("it is there in that one", p -> p.reason(1, true), 0);
        }
    }

    private static void ringReason() {
        Check.of("Terms", "RING, some task would need itself, over others or not;");
        for (int length : Check.numbers(2, 16)) {
            Run x = withTasks(16);
            // One half of the needs in each plan; a need of the last one on the first one makes the ring.
            for (int at : Check.numbers(1, length - 1)) {
                x.call(p -> p.setNeed(at % 2, 16 - length + at - 1, 16 - length + at, true));
            }
            x.due("a row of " + length, p -> p.reason(1, true), 0);
            x.due("no task", p -> p.reasonTask(1, true), NONE);
            x.call(p -> p.setNeed(length % 2, 15, 16 - length, true));
            for (int merges : Check.numbers(0, 1)) {
                x.due("a ring of " + length, p -> p.reason(1, merges == 1), RING);
                x.due("the lowest in the ring", p -> p.reasonTask(1, merges == 1), 16 - length);
            }
            if (length < 16) {
                x.call(p -> p.setNeed(0, 0, 15, true));
                x.due("not that which only needs the ring", p -> p.reasonTask(1, true), 16 - length);
            }
        }
    }

    private static void budgetReason() {
        Check.of("Terms", "BUDGET, the cost would be above the budget of the branch;");
        Run x = withTasks(0);
        x.call(p -> p.setBudget(0, 0));
        x.call(p -> p.setBudget(1, 0));
        x.due("no cost, no budget", p -> p.reason(1, true), 0);
        x.call(p -> p.setTask(1, 15, 20, NONE, 0));
        x.due("a task without cost", p -> p.reason(1, true), 0);
        x.call(p -> p.setTask(1, 15, 1, NONE, 1));
        x.due("more than none for the parent", p -> p.reason(1, true), BUDGET);
        x.due("more than none for the branch", p -> p.reason(1, false), BUDGET);
        for (int task : Check.numbers(0, 15)) {
            x.call(p -> p.setTask(1, task, 20, NONE, 1000));
        }
        for (int budget : new int[] {0, 1, 319999, 320000, 320001, 999999, 1000000}) {
            int due = budget < 320000 ? BUDGET : 0;
            x.call(p -> p.setBudget(0, budget));
            x.call(p -> p.setBudget(1, 0));
            x.due("of the parent, " + budget, p -> p.reason(1, true), due);
            x.due("not of the branch", p -> p.reason(1, false), BUDGET);
            x.call(p -> p.setBudget(0, 0));
            x.call(p -> p.setBudget(1, budget));
            x.due("of the branch, " + budget, p -> p.reason(1, false), due);
            x.due("not of the parent", p -> p.reason(1, true), BUDGET);
            x.due("no task", p -> p.reasonTask(1, true), NONE);
        }
        x.due("just so much", p -> p.setBudget(0, 320000), 0);
        x.due("merged", p -> p.merge(1), 16);
    }

    private static void stuckReason() {
        Check.of("Terms", "STUCK, some task would be left out in it by the rule told below.");
        Run x = new Run();
        x.call(p -> p.begin(0));
        x.call(p -> p.begin(0));
        x.call(p -> p.give(2, 2));
        x.call(p -> p.setTask(1, 15, 4, 2, 0));
        x.due("the parent has no day", p -> p.reason(1, true), STUCK);
        x.due("the branch has no day", p -> p.reason(1, false), STUCK);
        x.call(p -> p.lend(2, 0, 390, 392));
        x.call(p -> p.lend(2, 1, 397, 399));
        x.due("the parent has a day too few", p -> p.reason(1, true), STUCK);
        x.due("the branch has a day too few", p -> p.reason(1, false), STUCK);
        x.call(p -> p.lend(2, 0, 393, 393));
        x.due("the parent has all days", p -> p.reason(1, true), 0);
        x.due("the branch still has too few", p -> p.reason(1, false), STUCK);
        x.call(p -> p.lend(2, 1, 396, 396));
        x.due("the branch has all days", p -> p.reason(1, false), 0);
        x.call(p -> p.setTask(1, 0, 1, NONE, 0));
        x.call(p -> p.setNeed(1, 0, 15, true));
        x.due("the parent has a day behind them", p -> p.reason(1, true), 0);
        x.due("the branch has no day behind them", p -> p.reason(1, false), STUCK);
        x.due("that which needs it", p -> p.reasonTask(1, false), 0);
        x.call(p -> p.lend(2, 2, 390, 390));
        x.due("those that need it too", p -> p.reasonTask(1, true), 0);
        x.fails("not merged", Check.BAD_STATE, p -> p.merge(1));
    }

    private static void firstReason() {
        Check.of("Terms", "Neither is done, if there is a reason against it, the first one of these, by the plan that would"
                + " come of it, and the branch that would get it:");
        for (int merges : Check.numbers(0, 1)) {
            boolean m = merges == 1;
            int getter = 1 - merges;
            Run x = withTasks(8);
            x.call(p -> p.setTask(0, 7, 6, NONE, 10));
            x.call(p -> p.setTask(1, 7, 7, NONE, 10));
            x.call(p -> p.removeTask(0, 6));
            x.call(p -> p.setNeed(1, 5, 6, true));
            x.call(p -> p.setNeed(0, 3, 4, true));
            x.call(p -> p.setNeed(1, 4, 3, true));
            x.call(p -> p.setBudget(getter, 0));
            x.call(p -> p.setTask(1, 2, 5, 0, 10));
            x.call(p -> p.begin(0));
            x.call(p -> p.give(0, 2));
            x.due("all of them", p -> p.reason(1, m), CLASH);
            x.due("CLASH", p -> p.reasonTask(1, m), 7);
            x.call(p -> p.resolve(1, 7, PARENT));
            x.due("but CLASH", p -> p.reason(1, m), MISSING);
            x.due("MISSING", p -> p.reasonTask(1, m), 5);
            x.call(p -> p.setNeed(1, 5, 6, false));
            x.due("but MISSING", p -> p.reason(1, m), RING);
            x.due("RING", p -> p.reasonTask(1, m), 3);
            x.call(p -> p.setNeed(0, 3, 4, false));
            x.due("but RING", p -> p.reason(1, m), BUDGET);
            x.due("BUDGET", p -> p.reasonTask(1, m), NONE);
            x.call(p -> p.setBudget(1 - getter, 0));
            x.call(p -> p.setBudget(getter, 360));
            x.due("but BUDGET", p -> p.reason(1, m), STUCK);
            x.due("STUCK", p -> p.reasonTask(1, m), 2);
            x.call(p -> p.lend(0, getter, 0, 4));
            x.due("none", p -> p.reason(1, m), 0);
            x.due("none", p -> p.reasonTask(1, m), NONE);
            x.due("against the other", p -> p.reason(1, !m), BUDGET);
            x.due("done", p -> m ? p.merge(1) : p.update(1), 2);
        }
    }

    private static void newBudget() {
        Check.of("Promise 11", "Begins a branch, with the budget 1000000, whatever that of its parent is.");
        for (int budget : new int[] {0, 1, 999999, 1000000}) {
            Run x = new Run();
            x.call(p -> p.setBudget(0, budget));
            x.due("its number", p -> p.begin(0), 1);
            x.due("that of the parent stays", p -> p.setBudget(0, 5), budget);
            x.due("its budget", p -> p.setBudget(1, 7), 1000000);
            x.due("of its child", p -> p.begin(1), 2);
            x.due("of its child", p -> p.setBudget(2, 0), 1000000);
            x.due("still that of its parent", p -> p.setBudget(1, 0), 7);
        }
    }

    private static void parents() {
        Check.of("Promise 12", "Returns the number of branches.");
        Run x = withBranches(1);
        x.due("one", p -> p.branches(), 1);
        Check.of("Promise 13", "Returns the parent of a branch; NONE for the branch 0.");
        x.due("branch 0", p -> p.parent(0), NONE);
        x.fails("branch 1", Check.NO_BRANCH, p -> p.parent(1));
        int[] parents = {0, 1, 1, 0, 4, 2, 6};
        for (int at : Check.numbers(0, 6)) {
            x.call(p -> p.begin(parents[at]));
        }
        for (int at : Check.numbers(0, 6)) {
            x.due("branch " + (at + 1), p -> p.parent(at + 1), parents[at]);
        }
        x.due("branch 0 still", p -> p.parent(0), NONE);
        x.fails("branch 8", Check.NO_BRANCH, p -> p.parent(8));
        x.fails("branch -1", Check.NO_BRANCH, p -> p.parent(NONE));
    }

    private static void budgets() {
        Check.of("Promise 14", "Sets the budget of a branch; its plan may cost more.");
        Run x = withTasks(16);
        x.due("the least", p -> p.setBudget(0, 0), 1000000);
        x.fails("less than the least", Check.BAD_ARGUMENT, p -> p.setBudget(0, -1));
        x.due("the greatest", p -> p.setBudget(0, 1000000), 0);
        x.fails("more than the greatest", Check.BAD_ARGUMENT, p -> p.setBudget(0, 1000001));
        x.due("less than the plan costs", p -> p.setBudget(0, 799), 1000000);
        x.due("that may cost more", p -> p.cost(0), 800);
        x.due("and still more", p -> p.setTask(0, 0, 20, NONE, 1000), true);
        x.due("and still more", p -> p.cost(0), 20750);
        x.due("undone", p -> p.undo(0), 0);
        x.due("a branch begun from it", p -> p.begin(0), 2);
        x.due("of the other branch", p -> p.setBudget(1, 3), 1000000);
        x.call(p -> p.setTask(1, 0, 20, NONE, 1000));
        x.due("takes nothing away that can be undone", p -> p.setBudget(1, 1), 3);
        x.due("takes nothing away that can be undone", p -> p.undo(1), 0);
        x.due("is no change", p -> p.setBudget(0, 799), 799);
        x.fails("is no change", Check.BAD_STATE, p -> p.undo(0));
    }

    private static void resolve() {
        Run x = withTasks(1);
        Check.of("Promise 15", "Returns the side before; NONE if it was not resolved.");
        for (int task : Check.numbers(0, 15)) {
            x.due("not resolved", p -> p.resolve(1, task, NONE), NONE);
            x.due("before", p -> p.resolve(1, task, OWN), NONE);
            x.due("before", p -> p.resolve(1, task, OWN), OWN);
            x.due("before", p -> p.resolve(1, task, PARENT), OWN);
            x.due("before", p -> p.resolve(1, task, PARENT), PARENT);
            x.due("before", p -> p.resolve(1, task, OWN), PARENT);
        }
        Check.of("Promise 15", "Resolves a task for a branch, whether it clashes now or not;");
        x.call(p -> p.setTask(0, 0, 6, NONE, 10));
        x.call(p -> p.setTask(1, 0, 7, NONE, 10));
        x.due("clashes", p -> p.clashes(1), 1);
        x.due("was resolved ahead of it", p -> p.reason(1, true), 0);
        x.call(p -> p.resolve(1, 0, PARENT));
        x.call(p -> p.begin(1));
        x.due("not of a branch begun from it", p -> p.resolve(2, 0, NONE), NONE);
        x.due("nor of its parent's other one", p -> p.begin(0), 3);
        x.due("nor of its parent's other one", p -> p.resolve(3, 0, NONE), NONE);
        x.due("the latest side", p -> p.update(1), 1);
        x.due("the latest side", p -> p.length(1, 0), 6);
        x.fails("branch 0", Check.BAD_STATE, p -> p.resolve(0, 0, NONE));
        x.fails("side 2", Check.BAD_ARGUMENT, p -> p.resolve(1, 0, 2));
        x.fails("side -2", Check.BAD_ARGUMENT, p -> p.resolve(1, 0, -2));
    }

    private static void clashes() {
        Check.of("Promise 16", "Returns the tasks of a branch that clash, resolved or not: bit t stands for the task t;"
                + " 0 for the branch 0.");
        Run x = withTasks(16);
        x.due("none", p -> p.clashes(1), 0);
        int due = 0;
        for (int task : Check.numbers(0, 15)) {
            x.call(p -> p.setTask(0, task, 6, NONE, 10));
            x.due("another in the parent", p -> p.clashes(1), Check.bits(Check.numbers(0, task - 1)));
            x.call(p -> p.setTask(1, task, 7, NONE, 10));
            x.due("another in both", p -> p.clashes(1), Check.bits(Check.numbers(0, task)));
            x.call(p -> p.resolve(1, task, task % 2));
            x.due("resolved or not", p -> p.clashes(1), Check.bits(Check.numbers(0, task)));
        }
        x.due("all", p -> p.clashes(1), ALL);
        x.due("branch 0", p -> p.clashes(0), 0);
        Check.of("Promise 17", "Returns the reason against merging a branch, or against bringing it up to date; 0 if there is none.");
        x.due("all are resolved", p -> p.reason(1, true), 0);
        x.due("all are resolved", p -> p.reason(1, false), 0);
        x.call(p -> p.resolve(1, 15, NONE));
        x.due("but one", p -> p.reason(1, true), CLASH);
        x.due("but one", p -> p.reason(1, false), CLASH);
        x.fails("branch 0", Check.BAD_STATE, p -> p.reason(0, true));
        x.fails("branch 0", Check.BAD_STATE, p -> p.reason(0, false));
    }

    private static void reasonTask() {
        Check.of("Promise 18", "Returns the lowest task because of which there is the reason against merging a branch, or"
                + " against bringing it up to date: that clashes and is not resolved, needs one that would not be there,"
                + " would need itself, or would be left out, be it because it needs one that would be; NONE if there is no"
                + " reason, or it is BUDGET.");
        Run none = withTasks(16);
        none.due("no reason", p -> p.reasonTask(1, true), NONE);
        none.due("no reason", p -> p.reasonTask(1, false), NONE);
        Run clash = withTasks(16);
        Run stuck = withTasks(16);
        stuck.call(p -> p.begin(0));
        stuck.call(p -> p.give(3, 2));
        Run missing = withTasks(16);
        missing.call(p -> p.setTask(0, 0, 1, NONE, 1));
        for (int task = 15; task >= 1; task--) {
            int of = task;
            clash.call(p -> p.setTask(0, of, 6, NONE, 10));
            clash.call(p -> p.setTask(1, of, 7, NONE, 10));
            clash.due("CLASH", p -> p.reasonTask(1, false), of);
            stuck.call(p -> p.setTask(1, of, 5, 3, 10));
            stuck.due("STUCK", p -> p.reasonTask(1, false), of);
        }
        stuck.call(p -> p.setNeed(1, 0, 15, true));
        stuck.due("STUCK because of one that it needs", p -> p.reasonTask(1, true), 0);
        clash.call(p -> p.resolve(1, 1, OWN));
        clash.due("the lowest one not resolved", p -> p.reasonTask(1, true), 2);
        missing.call(p -> p.removeTask(0, 0));
        for (int task = 15; task >= 1; task--) {
            int of = task;
            missing.call(p -> p.setNeed(1, of, 0, true));
            missing.due("MISSING", p -> p.reasonTask(1, true), of);
        }
        Run budget = withTasks(16);
        budget.call(p -> p.setBudget(0, 799));
        budget.due("BUDGET", p -> p.reason(1, true), BUDGET);
        budget.due("BUDGET", p -> p.reasonTask(1, true), NONE);
        budget.fails("branch 0", Check.BAD_STATE, p -> p.reasonTask(0, true));
        budget.fails("branch 0", Check.BAD_STATE, p -> p.reasonTask(0, false));
    }

    private static void mergeCounts() {
        Check.of("Promise 19", "Returns how many tasks of the plan of the parent are not the same as before.");
        for (int count : Check.numbers(0, 16)) {
            Run x = withTasks(16);
            for (int task : Check.numbers(1, count)) {
                changed(x, 1, 16 - task);
            }
            if (count < 16) {
                x.call(p -> p.setTask(0, 0, 9, NONE, 10));
            }
            x.due("other tasks", p -> p.merge(1), count);
            x.due("none any more", p -> p.merge(1), 0);
        }
        Run x = withTasks(0);
        x.due("of empty plans", p -> p.merge(1), 0);
        x.fails("branch 0", Check.BAD_STATE, p -> p.merge(0));
        x.fails("branch 2", Check.NO_BRANCH, p -> p.merge(2));
    }

    /** In one of its parts, or it is not there any more. */
    private static void changed(Run x, int branch, int task) {
        switch (task % 4) {
            case 0 -> x.call(p -> p.setTask(branch, task, 6, NONE, 10));
            case 1 -> x.call(p -> p.setTask(branch, task, 5, NONE, 11));
            case 2 -> x.call(p -> p.removeTask(branch, task));
            default -> x.call(p -> p.setNeed(branch, task, 0, true));
        }
    }

    private static void updateCounts() {
        Check.of("Promise 20", "Returns how many tasks of its plan are not the same as before.");
        for (int count : Check.numbers(0, 16)) {
            Run x = withTasks(16);
            for (int task : Check.numbers(1, count)) {
                changed(x, 0, 16 - task);
            }
            if (count < 16) {
                x.call(p -> p.setTask(1, 0, 9, NONE, 10));
            }
            x.due("other tasks", p -> p.update(1), count);
            x.due("none any more", p -> p.update(1), 0);
        }
        Run x = withTasks(0);
        x.due("of empty plans", p -> p.update(1), 0);
        x.fails("branch 0", Check.BAD_STATE, p -> p.update(0));
        x.fails("branch 2", Check.NO_BRANCH, p -> p.update(2));
    }
}
