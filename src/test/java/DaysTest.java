/** Promises 28 to 32: the days, by the rule and by all orders. */
public final class DaysTest {
    private static final int NONE = PlanBranches.NONE;

    public static void main(String[] args) {
        empty();
        needsAndCrews();
        ruleTakesTheGreatestTail();
        ruleTakesTheLowestNumber();
        gapsAreFilled();
        loansBreakTheDays();
        ruleIsNotTheBest();
        leftOutWithAllThatNeedIt();
        lastDays();
        withoutCrewToTheLastDay();
        byAllMustPlaceAll();
        byAllAtMostSix();
        taskOn();
        wrong();
        Check.end();
    }

    private static void empty() {
        Run x = new Run();
        x.due("28 not there", p -> p.firstDay(0, 0), NONE);
        x.due("29 no tasks", p -> p.leftOut(0), 0);
        x.due("30 no tasks", p -> p.lastDay(0), NONE);
        x.due("31 no tasks", p -> p.lastDayByAll(0), NONE);
        x.due("32 no tasks", p -> p.taskOn(0, 0, 0), NONE);
    }

    private static void needsAndCrews() {
        Run x = new Run();
        x.call(p -> p.setTask(0, 0, 3, NONE, 0));
        x.call(p -> p.setTask(0, 1, 5, NONE, 0));
        x.call(p -> p.setTask(0, 2, 2, 4, 0));
        x.call(p -> p.setNeed(0, 2, 0, true));
        x.due("28 without needs", p -> p.firstDay(0, 0), 0);
        x.due("28 without a crew beside it", p -> p.firstDay(0, 1), 0);
        x.due("28 behind its need", p -> p.firstDay(0, 2), 3);
        x.call(p -> p.setNeed(0, 2, 1, true));
        x.due("28 behind both needs", p -> p.firstDay(0, 2), 5);
        x.due("28 not there", p -> p.firstDay(0, 3), NONE);
        x.due("29 none", p -> p.leftOut(0), 0);
        x.due("30 last", p -> p.lastDay(0), 6);
        x.due("31 last", p -> p.lastDayByAll(0), 6);
        x.call(p -> p.setTask(0, 0, 3, 4, 0));
        x.call(p -> p.setTask(0, 1, 5, 4, 0));
        x.due("28 the longer one first", p -> p.firstDay(0, 1), 0);
        x.due("28 then the other", p -> p.firstDay(0, 0), 5);
        x.due("28 then that which needs both", p -> p.firstDay(0, 2), 8);
    }

    private static void ruleTakesTheGreatestTail() {
        Run x = new Run();
        x.call(p -> p.setTask(0, 0, 6, 0, 0));
        x.call(p -> p.setTask(0, 1, 2, 0, 0));
        x.call(p -> p.setTask(0, 2, 5, NONE, 0));
        x.due("28 the longer one first", p -> p.firstDay(0, 1), 6);
        x.call(p -> p.setNeed(0, 2, 1, true));
        x.due("28 the greater tail first", p -> p.firstDay(0, 1), 0);
        x.due("28 then the other", p -> p.firstDay(0, 0), 2);
        x.due("28 behind its need", p -> p.firstDay(0, 2), 2);
        x.due("30 last", p -> p.lastDay(0), 7);
    }

    private static void ruleTakesTheLowestNumber() {
        Run x = new Run();
        x.call(p -> p.setTask(0, 9, 4, 2, 0));
        x.call(p -> p.setTask(0, 5, 4, 2, 0));
        x.call(p -> p.setTask(0, 7, 4, 2, 0));
        x.due("28 first", p -> p.firstDay(0, 5), 0);
        x.due("28 second", p -> p.firstDay(0, 7), 4);
        x.due("28 third", p -> p.firstDay(0, 9), 8);
        x.call(p -> p.setTask(0, 0, 1, NONE, 0));
        x.call(p -> p.setNeed(0, 5, 0, true));
        x.due("28 of those whose needs are placed", p -> p.firstDay(0, 5), 1);
    }

    /** A task that is placed later goes into the days between others, if it fits. */
    private static void gapsAreFilled() {
        Run x = new Run();
        x.call(p -> p.setTask(0, 0, 4, 0, 0));
        x.call(p -> p.setTask(0, 1, 3, NONE, 0));
        x.call(p -> p.setTask(0, 2, 10, 0, 0));
        x.call(p -> p.setNeed(0, 1, 0, true));
        x.call(p -> p.setNeed(0, 2, 1, true));
        x.call(p -> p.setTask(0, 3, 3, 0, 0));
        x.call(p -> p.setTask(0, 4, 2, 0, 0));
        x.due("28 in the gap", p -> p.firstDay(0, 3), 4);
        x.due("28 behind the gap", p -> p.firstDay(0, 4), 17);
        x.call(p -> p.setTask(0, 3, 2, 0, 0));
        x.call(p -> p.setTask(0, 4, 1, 0, 0));
        x.due("28 both in the gap", p -> p.firstDay(0, 3), 4);
        x.due("28 both in the gap", p -> p.firstDay(0, 4), 6);
        x.call(p -> p.setTask(0, 3, 4, 0, 0));
        x.due("28 too long for the gap", p -> p.firstDay(0, 3), 17);
        x.due("28 still in the gap", p -> p.firstDay(0, 4), 4);
    }

    private static void loansBreakTheDays() {
        Run x = new Run();
        x.call(p -> p.begin(0));
        x.call(p -> p.setTask(0, 0, 3, 1, 0));
        x.call(p -> p.setTask(1, 0, 3, 1, 0));
        x.due("29 not held", p -> p.leftOut(1), 1);
        x.due("28 not held", p -> p.firstDay(1, 0), NONE);
        x.due("30 none placed", p -> p.lastDay(1), NONE);
        x.call(p -> p.lend(1, 1, 2, 3));
        x.due("29 too few days", p -> p.leftOut(1), 1);
        x.due("28 ahead too few days", p -> p.firstDay(0, 0), 4);
        x.call(p -> p.lend(1, 1, 10, 12));
        x.due("28 just enough days", p -> p.firstDay(1, 0), 10);
        x.due("30 just enough days", p -> p.lastDay(1), 12);
        x.call(p -> p.lend(1, 0, 11, 11));
        x.due("29 broken", p -> p.leftOut(1), 1);
        x.call(p -> p.give(1, 1));
        x.due("28 held till the loan", p -> p.firstDay(1, 0), 0);
        x.due("29 a single day", p -> p.leftOut(0), 1);
        x.call(p -> p.setTask(0, 0, 1, 1, 0));
        x.due("28 on the single day", p -> p.firstDay(0, 0), 11);
    }

    private static void ruleIsNotTheBest() {
        Run x = new Run();
        x.call(p -> p.begin(0));
        x.call(p -> p.give(0, 1));
        x.call(p -> p.lend(0, 0, 0, 4));
        x.call(p -> p.lend(0, 0, 20, 39));
        x.call(p -> p.setTask(0, 0, 4, 0, 0));
        x.call(p -> p.setTask(0, 1, 3, 0, 0));
        x.call(p -> p.setTask(0, 2, 2, 0, 0));
        x.due("30 by the rule", p -> p.lastDay(0), 24);
        x.due("31 by all orders", p -> p.lastDayByAll(0), 23);
        x.due("28 still by the rule", p -> p.firstDay(0, 0), 0);
        x.call(p -> p.removeTask(0, 0));
        x.due("31 fewer", p -> p.lastDayByAll(0), 4);
    }

    private static void leftOutWithAllThatNeedIt() {
        Run x = new Run();
        x.call(p -> p.begin(0));
        x.call(p -> p.give(3, 1));
        x.call(p -> p.setTask(0, 8, 1, 3, 0));
        x.call(p -> p.setTask(0, 4, 1, NONE, 0));
        x.call(p -> p.setTask(0, 2, 1, 0, 0));
        x.call(p -> p.setTask(0, 6, 7, 0, 0));
        x.call(p -> p.setNeed(0, 4, 8, true));
        x.call(p -> p.setNeed(0, 2, 4, true));
        x.due("29 over others", p -> p.leftOut(0), Check.bits(2, 4, 8));
        x.due("28 left out", p -> p.firstDay(0, 8), NONE);
        x.due("28 left out over others", p -> p.firstDay(0, 2), NONE);
        x.due("28 placed", p -> p.firstDay(0, 6), 0);
        x.due("30 of those that are placed", p -> p.lastDay(0), 6);
        x.due("31 not all can be placed", p -> p.lastDayByAll(0), NONE);
        x.due("32 of those that are placed", p -> p.taskOn(0, 3, 0), NONE);
        x.call(p -> p.setTask(0, 4, 1, NONE, 0));
        x.call(p -> p.setNeed(0, 4, 8, false));
        x.due("29 needs it no more", p -> p.leftOut(0), Check.bits(8));
    }

    /** 400 days of one crew are full with 20 tasks of 20 days; here with a loan of the other days. */
    private static void lastDays() {
        Run x = new Run();
        x.call(p -> p.begin(0));
        x.call(p -> p.lend(0, 1, 0, 379));
        x.call(p -> p.setTask(0, 0, 20, 0, 0));
        x.due("28 to the last day", p -> p.firstDay(0, 0), 380);
        x.due("30 the last day", p -> p.lastDay(0), 399);
        x.due("31 the last day", p -> p.lastDayByAll(0), 399);
        x.due("32 the first of them", p -> p.taskOn(0, 0, 380), 0);
        x.due("32 the last of them", p -> p.taskOn(0, 0, 399), 0);
        x.call(p -> p.setTask(0, 1, 1, 0, 0));
        x.due("29 no day is left", p -> p.leftOut(0), 2);
        x.due("31 no day is left", p -> p.lastDayByAll(0), NONE);
        x.call(p -> p.setTask(0, 0, 19, 0, 0));
        x.due("28 the day that is left", p -> p.firstDay(0, 1), 399);
        x.call(p -> p.lend(0, 1, 380, 380));
        x.due("29 a day fewer", p -> p.leftOut(0), 2);
    }

    private static void withoutCrewToTheLastDay() {
        Run x = new Run();
        x.call(p -> p.begin(0));
        x.call(p -> p.lend(0, 1, 0, 397));
        x.call(p -> p.setTask(0, 0, 1, 0, 0));
        x.call(p -> p.setTask(0, 1, 1, NONE, 0));
        x.call(p -> p.setNeed(0, 1, 0, true));
        x.due("28 without a crew on the last day", p -> p.firstDay(0, 1), 399);
        x.due("30 on the last day", p -> p.lastDay(0), 399);
        x.call(p -> p.setTask(0, 1, 2, NONE, 0));
        x.due("28 without a crew beyond the last day", p -> p.firstDay(0, 1), NONE);
        x.due("29 without a crew beyond the last day", p -> p.leftOut(0), 2);
        x.due("30 of the other one", p -> p.lastDay(0), 398);
        x.call(p -> p.lend(0, 1, 398, 398));
        x.call(p -> p.setTask(0, 1, 1, NONE, 0));
        x.due("29 behind the last day", p -> p.leftOut(0), 2);
        x.call(p -> p.setTask(0, 1, 1, 2, 0));
        x.due("29 behind the last day with a crew", p -> p.leftOut(0), 2);
    }

    /** An order by which some task cannot be placed does not count, though others end earlier. */
    private static void byAllMustPlaceAll() {
        Run x = new Run();
        x.call(p -> p.begin(0));
        x.call(p -> p.give(0, 1));
        x.call(p -> p.lend(0, 0, 0, 2));
        x.call(p -> p.lend(0, 0, 100, 101));
        x.call(p -> p.setTask(0, 0, 2, 0, 0));
        x.call(p -> p.setTask(0, 1, 3, 0, 0));
        x.call(p -> p.setTask(0, 2, 9, NONE, 0));
        x.call(p -> p.setNeed(0, 2, 0, true));
        x.due("29 by the rule", p -> p.leftOut(0), 2);
        x.due("30 by the rule", p -> p.lastDay(0), 10);
        x.due("31 by another order", p -> p.lastDayByAll(0), 110);
    }

    private static void byAllAtMostSix() {
        Run x = new Run();
        for (int task : Check.numbers(10, 15)) {
            x.call(p -> p.setTask(0, task, task - 9, 0, 0));
        }
        x.due("31 six tasks of one crew", p -> p.lastDayByAll(0), 20);
        x.call(p -> p.setTask(0, 0, 1, NONE, 0));
        x.fails("31 seven tasks", Check.BAD_STATE, p -> p.lastDayByAll(0));
        x.fails("31 branch first", Check.NO_BRANCH, p -> p.lastDayByAll(1));
        x.call(p -> p.removeTask(0, 12));
        x.due("31 six again", p -> p.lastDayByAll(0), 17);
        x.call(p -> p.begin(0));
        x.call(p -> p.setTask(1, 1, 1, NONE, 0));
        x.fails("31 seven of the branch", Check.BAD_STATE, p -> p.lastDayByAll(1));
        x.due("31 six of the parent", p -> p.lastDayByAll(0), 17);
    }

    private static void taskOn() {
        Run x = new Run();
        x.call(p -> p.setTask(0, 3, 4, 2, 0));
        x.call(p -> p.setTask(0, 0, 3, 2, 0));
        x.call(p -> p.setTask(0, 1, 2, NONE, 0));
        x.call(p -> p.setTask(0, 2, 2, 4, 0));
        x.call(p -> p.setNeed(0, 0, 3, true));
        x.call(p -> p.setNeed(0, 2, 3, true));
        int[] due = {3, 3, 3, 3, 0, 0, 0, NONE};
        for (int day : Check.numbers(0, 7)) {
            x.due("32 crew 2", p -> p.taskOn(0, 2, day), due[day]);
            x.due("32 crew 4", p -> p.taskOn(0, 4, day), day == 4 || day == 5 ? 2 : NONE);
            x.due("32 crew 0", p -> p.taskOn(0, 0, day), NONE);
        }
        x.call(p -> p.begin(0));
        x.due("32 a branch that does not hold it", p -> p.taskOn(1, 2, 0), NONE);
        x.call(p -> p.give(2, 1));
        x.due("32 a branch that holds it", p -> p.taskOn(1, 2, 0), 3);
        x.due("32 a branch that holds it no more", p -> p.taskOn(0, 2, 0), NONE);
        x.due("32 last day", p -> p.taskOn(0, 2, 399), NONE);
    }

    private static void wrong() {
        Run x = new Run();
        x.call(p -> p.setTask(0, 0, 3, 2, 0));
        x.fails("28 branch 1", Check.NO_BRANCH, p -> p.firstDay(1, 16));
        x.fails("28 branch -1", Check.NO_BRANCH, p -> p.firstDay(-1, 0));
        x.fails("28 task -1", Check.BAD_ARGUMENT, p -> p.firstDay(0, -1));
        x.fails("28 task 16", Check.BAD_ARGUMENT, p -> p.firstDay(0, 16));
        x.fails("29 branch 1", Check.NO_BRANCH, p -> p.leftOut(1));
        x.fails("29 branch -1", Check.NO_BRANCH, p -> p.leftOut(-1));
        x.fails("30 branch 1", Check.NO_BRANCH, p -> p.lastDay(1));
        x.fails("30 branch -1", Check.NO_BRANCH, p -> p.lastDay(-1));
        x.fails("31 branch 1", Check.NO_BRANCH, p -> p.lastDayByAll(1));
        x.fails("31 branch -1", Check.NO_BRANCH, p -> p.lastDayByAll(-1));
        x.fails("32 branch 1", Check.NO_BRANCH, p -> p.taskOn(1, 5, 400));
        x.fails("32 branch -1", Check.NO_BRANCH, p -> p.taskOn(-1, 0, 0));
        x.fails("32 crew -1", Check.BAD_ARGUMENT, p -> p.taskOn(0, -1, 0));
        x.fails("32 crew 5", Check.BAD_ARGUMENT, p -> p.taskOn(0, 5, 0));
        x.fails("32 day -1", Check.BAD_ARGUMENT, p -> p.taskOn(0, 2, -1));
        x.fails("32 day 400", Check.BAD_ARGUMENT, p -> p.taskOn(0, 2, 400));
    }
}
