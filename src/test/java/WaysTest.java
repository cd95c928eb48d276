/** Promises 24 to 27: the critical ways. */
public final class WaysTest {
    private static final int NONE = PlanBranches.NONE;

    public static void main(String[] args) {
        empty();
        apart();
        net();
        chain();
        ofAnotherBranch();
        wrong();
        Check.end();
    }

    private static void empty() {
        Run x = new Run();
        x.due("24 not there", p -> p.tail(0, 0), 0);
        x.due("25 not there", p -> p.slack(0, 15), NONE);
        x.due("26 no tasks", p -> p.critical(0), 0);
        x.due("27 no tasks", p -> p.way(0), 0);
    }

    private static void apart() {
        Run x = new Run();
        x.call(p -> p.setTask(0, 2, 5, 0, 1));
        x.call(p -> p.setTask(0, 3, 8, 0, 1));
        x.call(p -> p.setTask(0, 15, 8, 0, 1));
        x.due("24 alone", p -> p.tail(0, 2), 5);
        x.due("25 alone", p -> p.slack(0, 2), 3);
        x.due("25 longest", p -> p.slack(0, 3), 0);
        x.due("26 both longest", p -> p.critical(0), Check.bits(3, 15));
        x.due("27 longest, whatever the crews", p -> p.way(0), 8);
        x.due("24 not there", p -> p.tail(0, 1), 0);
        x.due("25 not there", p -> p.slack(0, 1), NONE);
    }

    /** 1 needs 0, 2 needs 0, 3 needs 1 and 2, 4 needs 2; 5 stands alone. */
    private static Run makeNet() {
        Run x = new Run();
        int[] lengths = {3, 4, 2, 5, 6, 1};
        for (int task : Check.numbers(0, lengths.length - 1)) {
            x.call(p -> p.setTask(0, task, lengths[task], NONE, 0));
        }
        x.call(p -> p.setNeed(0, 1, 0, true));
        x.call(p -> p.setNeed(0, 2, 0, true));
        x.call(p -> p.setNeed(0, 3, 1, true));
        x.call(p -> p.setNeed(0, 3, 2, true));
        x.call(p -> p.setNeed(0, 4, 2, true));
        return x;
    }

    private static void net() {
        Run x = makeNet();
        int[] tails = {12, 9, 8, 5, 6, 1};
        int[] slacks = {0, 0, 1, 0, 1, 11};
        for (int task : Check.numbers(0, tails.length - 1)) {
            x.due("24 tail of " + task, p -> p.tail(0, task), tails[task]);
            x.due("25 slack of " + task, p -> p.slack(0, task), slacks[task]);
        }
        x.due("26 critical", p -> p.critical(0), Check.bits(0, 1, 3));
        x.due("27 way", p -> p.way(0), 12);
        x.call(p -> p.setTask(0, 2, 3, NONE, 0));
        x.due("26 two ways", p -> p.critical(0), Check.bits(0, 1, 2, 3, 4));
        x.due("27 two ways", p -> p.way(0), 12);
        x.call(p -> p.setNeed(0, 3, 1, false));
        x.due("25 behind a need no more", p -> p.slack(0, 1), 5);
        x.due("24 behind a need no more", p -> p.tail(0, 1), 4);
    }

    private static void chain() {
        Run x = new Run();
        for (int task : Check.numbers(0, 15)) {
            x.call(p -> p.setTask(0, task, 20, 0, 0));
        }
        // The needs go up and down the numbers, so that no single order of looking is enough.
        int[] row = {8, 7, 9, 6, 10, 5, 11, 4, 12, 3, 13, 2, 14, 1, 15, 0};
        for (int at : Check.numbers(1, 15)) {
            x.call(p -> p.setNeed(0, row[at], row[at - 1], true));
        }
        for (int at : Check.numbers(0, 15)) {
            x.due("24 in a chain", p -> p.tail(0, row[at]), 20 * (16 - at));
            x.due("25 in a chain", p -> p.slack(0, row[at]), 0);
        }
        x.due("26 the chain", p -> p.critical(0), 65535);
        x.due("27 the chain", p -> p.way(0), 320);
    }

    private static void ofAnotherBranch() {
        Run x = makeNet();
        x.call(p -> p.begin(0));
        x.call(p -> p.setTask(1, 0, 20, NONE, 0));
        x.due("24 own", p -> p.tail(1, 0), 29);
        x.due("24 parent", p -> p.tail(0, 0), 12);
        x.due("27 own", p -> p.way(1), 29);
        x.due("27 parent", p -> p.way(0), 12);
        x.call(p -> p.give(0, 1));
        x.due("27 whoever holds the crews", p -> p.way(0), 12);
    }

    private static void wrong() {
        Run x = makeNet();
        x.fails("24 branch 1", Check.NO_BRANCH, p -> p.tail(1, 16));
        x.fails("24 branch -1", Check.NO_BRANCH, p -> p.tail(-1, 0));
        x.fails("24 task -1", Check.BAD_ARGUMENT, p -> p.tail(0, -1));
        x.fails("24 task 16", Check.BAD_ARGUMENT, p -> p.tail(0, 16));
        x.fails("25 branch 1", Check.NO_BRANCH, p -> p.slack(1, 16));
        x.fails("25 branch -1", Check.NO_BRANCH, p -> p.slack(-1, 0));
        x.fails("25 task -1", Check.BAD_ARGUMENT, p -> p.slack(0, -1));
        x.fails("25 task 16", Check.BAD_ARGUMENT, p -> p.slack(0, 16));
        x.fails("26 branch 1", Check.NO_BRANCH, p -> p.critical(1));
        x.fails("26 branch -1", Check.NO_BRANCH, p -> p.critical(-1));
        x.fails("27 branch 1", Check.NO_BRANCH, p -> p.way(1));
        x.fails("27 branch -1", Check.NO_BRANCH, p -> p.way(-1));
    }
}
