import com.sun.management.ThreadMXBean;
import java.lang.management.ManagementFactory;

/** All calls of a run live in one room: no call makes an object but the constructor and begin. */
public final class RoomTest {
    private static final int STEPS = 40;
    /** Below a single row of 16 numbers for each step, and above what the measuring itself makes. */
    private static final int SMALL = 2000;

    private static final ThreadMXBean BEAN = (ThreadMXBean) ManagementFactory.getThreadMXBean();

    public static void main(String[] args) {
        long start = 0;
        PlanBranches x = null;
        // The first round loads the classes, which takes room of its own.
        for (int round = 0; round < 2; round++) {
            start = bytes();
            x = withAllBranches();
        }
        Check.due("an object with all its branches takes less than 40000 bytes", bytes() - start < 40000, true);
        for (int round = 0; round < 2; round++) {
            x = withAllBranches();
            x.lend(0, 1, 200, 399);
            for (int task = 0; task < 6; task++) {
                x.setTask(0, task, 20, 0, 1);
            }
            start = bytes();
            calls(x);
        }
        Check.due("the calls take few bytes", bytes() - start < SMALL, true);
        Check.end();
    }

    private static PlanBranches withAllBranches() {
        PlanBranches x = new PlanBranches();
        for (int branch = 1; branch < 8; branch++) {
            x.begin(0);
        }
        return x;
    }

    private static long bytes() {
        return BEAN.getThreadAllocatedBytes(Thread.currentThread().getId());
    }

    private static void calls(PlanBranches x) {
        for (int call = 0; call < STEPS; call++) {
            x.setTask(0, call % 6, 20, 0, call % 1000);
            x.setNeed(0, 0, 5, call % 2 == 0);
            x.lastDayByAll(0);
            x.taskOn(0, 0, call % 400);
            x.slack(0, 0);
            x.give(1, call % 8);
            x.holder(1, call % 400);
            x.update(1);
            x.reasonTask(1 + call % 7, true);
            x.merge(1);
            x.setTask(0, call % 6, 19, 0, call % 1000);
            x.undo(0);
        }
    }
}
