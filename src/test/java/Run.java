import java.util.ArrayList;
import java.util.List;

/**
 * A run of calls on one object, which can be made again on fresh objects. So all that can be
 * asked of the object is asked without its own calls growing beyond the 512 that the document
 * promises something about.
 */
final class Run {
    private static final int MOST_CALLS = 512;

    interface Call {
        void on(PlanBranches plans);
    }

    interface AskNumber {
        int of(PlanBranches plans);
    }

    interface AskTruth {
        boolean of(PlanBranches plans);
    }

    private final List<Call> calls = new ArrayList<>();
    private final PlanBranches plans = new PlanBranches();

    void call(Call call) {
        keep(call);
        call.on(plans);
    }

    void due(String what, AskNumber ask, int want) {
        keep(fresh -> ask.of(fresh));
        Check.due(what, ask.of(plans), want);
    }

    void due(String what, AskTruth ask, boolean want) {
        keep(fresh -> ask.of(fresh));
        Check.due(what, ask.of(plans), want);
    }

    /** The call is to throw just this exception, and to change nothing that can be asked for. */
    void fails(String what, Class<? extends RuntimeException> kind, Call call) {
        String before = state();
        Check.due(what + " throws", thrownBy(call, plans), kind.getName());
        keep(fresh -> thrownBy(call, fresh));
        Check.due(what + " changes nothing, so that what follows", state(), before);
    }

    private static String thrownBy(Call call, PlanBranches plans) {
        try {
            call.on(plans);
        } catch (RuntimeException e) {
            return e.getClass().getName();
        }
        return "nothing";
    }

    private void keep(Call call) {
        calls.add(call);
        if (calls.size() > MOST_CALLS) {
            throw new IllegalStateException("a test makes more calls on an object than are promised");
        }
    }

    private PlanBranches again() {
        PlanBranches fresh = new PlanBranches();
        for (Call call : calls) {
            call.on(fresh);
        }
        return fresh;
    }

    /** All that can be asked of the object, and what its changes could be undone to. */
    String state() {
        if (calls.size() > MOST_CALLS - 100) {
            throw new IllegalStateException("too many calls are made to ask for all that can be undone");
        }
        StringBuilder all = new StringBuilder();
        int branches = again().branches();
        for (int branch = 0; branch < branches; branch++) {
            addAnswers(all, questions(branch));
            addUndone(all, branch);
        }
        addAnswers(all, questionsOfCrews());
        return all.toString();
    }

    private static List<AskNumber> questions(int branch) {
        List<AskNumber> asks = new ArrayList<>();
        asks.add(x -> x.tasks(branch));
        asks.add(x -> x.cost(branch));
        asks.add(x -> x.parent(branch));
        asks.add(x -> x.clashes(branch));
        asks.add(x -> x.leftOut(branch));
        for (int task : Check.numbers(0, 15)) {
            asks.add(x -> x.length(branch, task));
            asks.add(x -> x.crew(branch, task));
            asks.add(x -> x.needs(branch, task));
            asks.add(x -> x.firstDay(branch, task));
        }
        if (branch > 0) {
            asks.add(x -> x.reason(branch, true));
            asks.add(x -> x.reason(branch, false));
        }
        // What changes the object stands last, where no other question is answered otherwise for it.
        if (branch > 0) {
            for (int task : Check.numbers(0, 15)) {
                asks.add(x -> x.resolve(branch, task, PlanBranches.NONE));
            }
        }
        asks.add(x -> x.setBudget(branch, 7));
        return asks;
    }

    private static List<AskNumber> questionsOfCrews() {
        List<AskNumber> asks = new ArrayList<>();
        for (int crew : Check.numbers(0, 4)) {
            for (int day : Check.numbers(0, 399)) {
                asks.add(x -> x.holder(crew, day));
            }
        }
        asks.add(Run::loansWithOneMore);
        return asks;
    }

    private static int loansWithOneMore(PlanBranches plans) {
        try {
            return plans.lend(0, 0, 0, 0);
        } catch (IllegalStateException e) {
            return -1;
        }
    }

    private void addAnswers(StringBuilder all, List<AskNumber> asks) {
        PlanBranches fresh = again();
        int made = calls.size();
        for (AskNumber ask : asks) {
            if (made == MOST_CALLS) {
                fresh = again();
                made = calls.size();
            }
            all.append(ask.of(fresh)).append(' ');
            made++;
        }
        all.append('\n');
    }

    private void addUndone(StringBuilder all, int branch) {
        PlanBranches fresh = again();
        try {
            while (true) {
                all.append(fresh.undo(branch)).append('/');
                all.append(fresh.tasks(branch)).append('/').append(fresh.cost(branch)).append(' ');
            }
        } catch (IllegalStateException e) {
            all.append("no more\n");
        }
    }
}
