import java.util.ArrayList;
import java.util.List;

/**
 * A run of calls on one object, which can be made again on fresh objects. So all that can be
 * asked of the object is asked without its own calls growing beyond the 512 that the document
 * promises something about.
 */
final class Run {
    private static final int MOST_CALLS = 512;

    interface Call {
        void on(PlanBranches plans);
    }

    interface AskNumber {
        int of(PlanBranches plans);
    }

    interface AskTruth {
        boolean of(PlanBranches plans);
    }

    private final List<Call> calls = new ArrayList<>();
    private final PlanBranches plans = new PlanBranches();

    void call(Call call) {
        keep(call);
        call.on(plans);
    }

    void due(String what, AskNumber ask, int want) {
        keep(fresh -> ask.of(fresh));
        Check.due(what, ask.of(plans), want);
    }

    void due(String what, AskTruth ask, boolean want) {
        keep(fresh -> ask.of(fresh));
        Check.due(what, ask.of(plans), want);
    }

    /** The call is to throw just this exception, and to change nothing that can be asked for. */
    void fails(String what, Class<? extends RuntimeException> kind, Call call) {
        String before = state();
        Check.due(what + " throws", thrownBy(call, plans), kind.getName());
        keep(fresh -> thrownBy(call, fresh));
        Check.due(what + " changes nothing, so that what follows", state(), before);
    }

    /** The call is expected to throw; what it throws is looked at elsewhere. */
    void callRefused(Call call) {
        keep(fresh -> thrownBy(call, fresh));
        thrownBy(call, plans);
    }

    static String thrownBy(Call call, PlanBranches plans) {
        try {
            call.on(plans);
        } catch (RuntimeException e) {
            return e.getClass().getName();
        }
        return "nothing";
    }

    private void keep(Call call) {
        calls.add(call);
        if (calls.size() > MOST_CALLS) {
            throw new IllegalStateException("a test makes more calls on an object than are promised");
        }
    }

    /** Another run with the same calls so far. */
    Run copy() {
        Run other = new Run();
        for (Call call : calls) {
            other.call(call);
        }
        return other;
    }

    /** A fresh object on which the same calls are made. */
    PlanBranches again() {
        PlanBranches fresh = new PlanBranches();
        for (Call call : calls) {
            call.on(fresh);
        }
        return fresh;
    }

    /** All that can be asked of the object, and what its changes could be undone to. */
    String state() {
        if (calls.size() > MOST_CALLS - 100) {
            throw new IllegalStateException("too many calls are made to ask for all that can be undone");
        }
        StringBuilder all = new StringBuilder();
        int branches = again().branches();
        for (int branch = 0; branch < branches; branch++) {
            addAnswers(all, questions(branch));
            addAnswers(all, changingQuestions(branch));
            addUndone(all, branch);
            addBase(all, branch);
        }
        addAnswers(all, questionsOfCrews());
        return all.toString();
    }

    private static List<AskNumber> questions(int branch) {
        List<AskNumber> asks = new ArrayList<>();
        asks.add(x -> x.tasks(branch));
        asks.add(x -> x.cost(branch));
        asks.add(x -> x.parent(branch));
        asks.add(x -> x.clashes(branch));
        asks.add(x -> x.leftOut(branch));
        for (int task : Check.numbers(0, 15)) {
            asks.add(x -> x.length(branch, task));
            asks.add(x -> x.crew(branch, task));
            asks.add(x -> x.needs(branch, task));
            asks.add(x -> x.firstDay(branch, task));
        }
        if (branch > 0) {
            for (int merges : Check.numbers(0, 1)) {
                asks.add(x -> x.reason(branch, merges == 1));
                asks.add(x -> x.reasonTask(branch, merges == 1));
            }
        }
        return asks;
    }

    /** What is asked for by changing it; no other question is asked of that object. */
    private static List<AskNumber> changingQuestions(int branch) {
        List<AskNumber> asks = new ArrayList<>();
        if (branch > 0) {
            for (int task : Check.numbers(0, 15)) {
                asks.add(x -> x.resolve(branch, task, PlanBranches.NONE));
            }
        }
        asks.add(x -> x.setBudget(branch, 7));
        return asks;
    }

    private static List<AskNumber> questionsOfCrews() {
        List<AskNumber> asks = new ArrayList<>();
        for (int crew : Check.numbers(0, 4)) {
            for (int day : Check.numbers(0, 399)) {
                asks.add(x -> x.holder(crew, day));
            }
        }
        asks.add(Run::loansWithOneMore);
        for (int crew : Check.numbers(0, 4)) {
            asks.add(x -> x.give(crew, 0));
        }
        return asks;
    }

    private static int loansWithOneMore(PlanBranches plans) {
        try {
            return plans.lend(0, 0, 0, 0);
        } catch (IllegalStateException e) {
            return -1;
        }
    }

    private void addAnswers(StringBuilder all, List<AskNumber> asks) {
        PlanBranches fresh = again();
        int made = calls.size();
        for (AskNumber ask : asks) {
            if (made == MOST_CALLS) {
                fresh = again();
                made = calls.size();
            }
            all.append(ask.of(fresh)).append(' ');
            made++;
        }
        all.append('\n');
    }

    /** The plan behind each undoing that can be made, each on a fresh object; more than 30 would be wrong. */
    private void addUndone(StringBuilder all, int branch) {
        for (int times = 1; times <= 32 && addUndone(all, branch, times); times++) {
            all.append(' ');
        }
    }

    private boolean addUndone(StringBuilder all, int branch, int times) {
        PlanBranches fresh = again();
        try {
            for (int time = 1; time < times; time++) {
                fresh.undo(branch);
            }
            all.append(fresh.undo(branch));
        } catch (IllegalStateException e) {
            all.append("no more\n");
            return false;
        }
        addPlan(all, fresh, branch);
        return true;
    }

    private static void addPlan(StringBuilder all, PlanBranches plans, int branch) {
        int tasks = plans.tasks(branch);
        all.append('/').append(tasks).append('/').append(plans.cost(branch));
        for (int task = 0; task < 16; task++) {
            if ((tasks >> task & 1) != 0) {
                all.append('/').append(plans.length(branch, task)).append(',').append(plans.crew(branch, task));
                all.append(',').append(plans.needs(branch, task));
            }
        }
    }

    /** A base cannot be asked for; but where the own plan is made quite another, what clashes tells of it. */
    private void addBase(StringBuilder all, int branch) {
        PlanBranches fresh = again();
        int tasks = fresh.tasks(branch);
        for (int task = 0; task < 16; task++) {
            if ((tasks >> task & 1) != 0) {
                fresh.setTask(branch, task, fresh.length(branch, task) % 20 + 1, (fresh.crew(branch, task) + 2) % 6 - 1, 997);
            }
        }
        all.append(fresh.clashes(branch)).append('\n');
    }
}
