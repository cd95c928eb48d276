/** Promises 21 to 23: the crews. */
public final class CrewsTest {
    public static void main(String[] args) {
        give();
        lend();
        lendAtMost();
        giveWrong();
        lendWrong();
        holder();
        Check.end();
    }

    private static Run withBranches(int count) {
        Run x = new Run();
        for (int branch : Check.numbers(1, count - 1)) {
            x.call(p -> p.begin(0));
        }
        return x;
    }

    private static void give() {
        Run x = withBranches(8);
        x.due("21 first", p -> p.give(4, 7), 0);
        x.due("21 then", p -> p.give(4, 2), 7);
        x.due("21 the same", p -> p.give(4, 2), 2);
        x.due("21 holder", p -> p.holder(4, 0), 2);
        x.due("21 holder", p -> p.holder(4, 399), 2);
        x.due("21 another crew", p -> p.holder(3, 0), 0);
        x.call(p -> p.lend(4, 5, 10, 20));
        x.due("21 with a loan", p -> p.give(4, 1), 2);
        x.due("21 the loan stays", p -> p.holder(4, 10), 5);
        x.due("21 ahead of the loan", p -> p.holder(4, 9), 1);
        x.due("21 back", p -> p.give(4, 0), 1);
        x.due("21 the loan still stays", p -> p.holder(4, 20), 5);
        x.due("21 behind the loan", p -> p.holder(4, 21), 0);
    }

    private static void lend() {
        Run x = withBranches(4);
        x.due("22 one", p -> p.lend(0, 1, 5, 9), 1);
        x.due("22 two, of another crew", p -> p.lend(1, 2, 0, 399), 2);
        x.due("22 a single day", p -> p.lend(0, 2, 7, 7), 3);
        x.due("23 ahead", p -> p.holder(0, 4), 0);
        x.due("23 first day", p -> p.holder(0, 5), 1);
        x.due("23 ahead of the latest", p -> p.holder(0, 6), 1);
        x.due("23 by the latest", p -> p.holder(0, 7), 2);
        x.due("23 behind the latest", p -> p.holder(0, 8), 1);
        x.due("23 last day", p -> p.holder(0, 9), 1);
        x.due("23 behind", p -> p.holder(0, 10), 0);
        x.due("23 all days", p -> p.holder(1, 0), 2);
        x.due("23 all days", p -> p.holder(1, 399), 2);
        x.due("22 over the others", p -> p.lend(0, 3, 6, 8), 4);
        x.due("23 by the latest", p -> p.holder(0, 7), 3);
        x.due("23 by the first still", p -> p.holder(0, 5), 1);
        x.due("22 to whom it belongs", p -> p.lend(0, 0, 0, 6), 5);
        x.due("23 to whom it belongs", p -> p.holder(0, 6), 0);
        x.due("23 still lent", p -> p.holder(0, 8), 3);
        x.call(p -> p.give(0, 2));
        x.due("23 the loan to the former one", p -> p.holder(0, 6), 0);
        x.due("22 first and last day", p -> p.lend(2, 1, 0, 0), 6);
        x.due("22 first and last day", p -> p.lend(2, 1, 399, 399), 7);
        x.due("23 day 0", p -> p.holder(2, 0), 1);
        x.due("23 day 1", p -> p.holder(2, 1), 0);
        x.due("23 day 398", p -> p.holder(2, 398), 0);
        x.due("23 day 399", p -> p.holder(2, 399), 1);
    }

    private static void lendAtMost() {
        Run x = withBranches(2);
        for (int loan : Check.numbers(1, 40)) {
            x.due("22 loans", p -> p.lend(loan % 5, loan % 2, loan, loan), loan);
        }
        x.fails("22 the 41st", Check.BAD_STATE, p -> p.lend(0, 1, 0, 399));
        x.fails("22 arguments first", Check.BAD_ARGUMENT, p -> p.lend(5, 1, 0, 399));
        x.fails("22 branch first", Check.NO_BRANCH, p -> p.lend(5, 2, 0, 399));
        x.due("21 still given", p -> p.give(0, 1), 0);
    }

    private static void giveWrong() {
        Run x = withBranches(2);
        x.fails("21 branch -1", Check.NO_BRANCH, p -> p.give(0, -1));
        x.fails("21 branch 2", Check.NO_BRANCH, p -> p.give(0, 2));
        x.fails("21 branch first", Check.NO_BRANCH, p -> p.give(5, 2));
        x.fails("21 crew -1", Check.BAD_ARGUMENT, p -> p.give(-1, 1));
        x.fails("21 crew 5", Check.BAD_ARGUMENT, p -> p.give(5, 1));
    }

    private static void lendWrong() {
        Run x = withBranches(2);
        x.fails("22 branch -1", Check.NO_BRANCH, p -> p.lend(0, -1, 0, 0));
        x.fails("22 branch 2", Check.NO_BRANCH, p -> p.lend(9, 2, 9, 0));
        x.fails("22 crew -1", Check.BAD_ARGUMENT, p -> p.lend(-1, 1, 0, 0));
        x.fails("22 crew 5", Check.BAD_ARGUMENT, p -> p.lend(5, 1, 0, 0));
        x.fails("22 from -1", Check.BAD_ARGUMENT, p -> p.lend(0, 1, -1, 0));
        x.fails("22 from 400", Check.BAD_ARGUMENT, p -> p.lend(0, 1, 400, 400));
        x.fails("22 to ahead of from", Check.BAD_ARGUMENT, p -> p.lend(0, 1, 5, 4));
        x.fails("22 to 400", Check.BAD_ARGUMENT, p -> p.lend(0, 1, 5, 400));
        x.fails("22 to greatest", Check.BAD_ARGUMENT, p -> p.lend(0, 1, 0, Integer.MAX_VALUE));
        x.due("22 what throws lends nothing", p -> p.lend(0, 1, 0, 0), 1);
    }

    private static void holder() {
        Run x = withBranches(2);
        x.fails("23 crew -1", Check.BAD_ARGUMENT, p -> p.holder(-1, 0));
        x.fails("23 crew 5", Check.BAD_ARGUMENT, p -> p.holder(5, 0));
        x.fails("23 day -1", Check.BAD_ARGUMENT, p -> p.holder(0, -1));
        x.fails("23 day 400", Check.BAD_ARGUMENT, p -> p.holder(0, 400));
    }
}
