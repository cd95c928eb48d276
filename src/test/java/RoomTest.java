import com.sun.management.ThreadMXBean;
import java.lang.management.ManagementFactory;

/**
 * All calls of a run live in one room of some 7.3 million fields and elements: each kind of call,
 * made as often as it can be on one object, takes less than that.
 */
public final class RoomTest {
    /** The calls that make the branches, tasks and loans, and these, are as many as are made on an object. */
    private static final int CALLS = 512 - 6 - 7 - 40;
    private static final long ROOM = 7300000L * Integer.BYTES;

    private static final ThreadMXBean BEAN = (ThreadMXBean) ManagementFactory.getThreadMXBean();

    interface Kind {
        void on(PlanBranches plans, int number);
    }

    public static void main(String[] args) {
        fits("setTask", (x, number) -> x.setTask(1, number % 6, 20, number % 5, number));
        fits("setNeed", (x, number) -> x.setNeed(0, 1, 0, number % 2 == 0));
        fits("removeTask and undo", (x, number) -> {
            if (number % 2 == 0) {
                x.removeTask(1, 5);
            } else {
                x.undo(1);
            }
        });
        fits("cost", (x, number) -> x.cost(0));
        fits("clashes", (x, number) -> x.clashes(1));
        fits("reason", (x, number) -> x.reason(1, number % 2 == 0));
        fits("reasonTask", (x, number) -> x.reasonTask(1, number % 2 == 0));
        fits("merge", (x, number) -> x.merge(1));
        fits("update", (x, number) -> x.update(1));
        fits("resolve", (x, number) -> x.resolve(1, number % 16, number % 3 - 1));
        fits("give", (x, number) -> x.give(number % 5, number % 8));
        fits("holder", (x, number) -> x.holder(number % 5, number % 400));
        fits("tail", (x, number) -> x.tail(0, number % 16));
        fits("slack", (x, number) -> x.slack(0, number % 16));
        fits("critical", (x, number) -> x.critical(0));
        fits("way", (x, number) -> x.way(0));
        fits("firstDay", (x, number) -> x.firstDay(1, 5));
        fits("leftOut", (x, number) -> x.leftOut(1));
        fits("lastDay", (x, number) -> x.lastDay(1));
        fits("lastDayByAll", (x, number) -> x.lastDayByAll(0));
        fits("taskOn", (x, number) -> x.taskOn(1, 0, number % 400));
        Check.end();
    }

    private static void fits(String what, Kind kind) {
        long start = bytes();
        PlanBranches x = withAllBranches();
        for (int number = 0; number < CALLS; number++) {
            kind.on(x, number);
        }
        long taken = bytes() - start;
        Check.due(what + " takes " + taken + " bytes; in the room", taken < ROOM, true);
    }

    private static long bytes() {
        return BEAN.getThreadAllocatedBytes(Thread.currentThread().getId());
    }

    /** Six tasks of one crew, which the branch 1 holds late, and all branches and loans. */
    private static PlanBranches withAllBranches() {
        PlanBranches x = new PlanBranches();
        for (int task = 0; task < 6; task++) {
            x.setTask(0, task, 15 + task, 0, 1);
        }
        for (int branch = 1; branch < 8; branch++) {
            x.begin(0);
        }
        for (int loan = 1; loan <= 40; loan++) {
            x.lend(0, 1, 200, 399);
        }
        return x;
    }
}
