import java.util.Arrays;

/**
 * A planner of projects that is kept in branches: tasks with lengths, crews, costs and needs,
 * critical ways, branches that are changed, undone, brought up to date and merged task by task,
 * clashes that are resolved, crews that belong to branches and are lent by days, budgets, and
 * earliest days by a rule and by all orders.
 *
 * Sets of tasks are ints in which bit t stands for the task t.
 */
public final class PlanBranches {
    public static final int NONE = -1;
    public static final int OWN = 0, PARENT = 1;
    public static final int CLASH = 1, MISSING = 2, RING = 3, BUDGET = 4, STUCK = 5;

    private static final int TASKS = 16;
    private static final int CREWS = 5;
    private static final int DAYS = 400;
    private static final int MOST_BRANCHES = 8;
    private static final int MOST_LOANS = 40;
    private static final int MOST_UNDOS = 30;
    private static final int MOST_TASKS_BY_ALL = 6;
    private static final int GREATEST_LENGTH = 20;
    private static final int GREATEST_COST = 1000;
    private static final int GREATEST_BUDGET = 1000000;

    private final Branch[] begun;
    private int begunCount;
    private final Crews crews;
    // The rest is room for answers that are worked out anew in each call: made once, so that
    // no call but begin makes an object.
    private final Joint joint;
    private final Ways ways;
    private final Schedule schedule;
    private int because;

    public PlanBranches() {
        begun = new Branch[MOST_BRANCHES];
        begun[0] = new Branch(0, null);
        begunCount = 1;
        crews = new Crews();
        joint = new Joint();
        ways = new Ways();
        schedule = new Schedule();
        because = 0;
    }

    // ---- plans

    public boolean setTask(int branch, int task, int length, int crew, int cost)
            throws IndexOutOfBoundsException, IllegalArgumentException {
        Branch of = branchAt(branch);
        checkTask(task);
        checkRange(length, 1, GREATEST_LENGTH);
        checkRange(crew, NONE, CREWS - 1);
        checkRange(cost, 0, GREATEST_COST);
        boolean was = of.plan.has(task);
        int needed = was ? of.plan.needs[task] : 0;
        of.history.keep(of.plan, task);
        of.plan.put(task, length, crew, cost, needed);
        return was;
    }

    public int removeTask(int branch, int task)
            throws IndexOutOfBoundsException, IllegalArgumentException, IllegalStateException {
        Branch of = branchAt(branch);
        checkTask(task);
        if (!of.plan.has(task)) {
            throw new IllegalStateException("the task is not there");
        }
        if (of.plan.isNeeded(task)) {
            throw new IllegalStateException("another task needs it");
        }
        int was = of.plan.lengths[task];
        of.history.keep(of.plan, task);
        of.plan.clear(task);
        return was;
    }

    public boolean setNeed(int branch, int task, int other, boolean does)
            throws IndexOutOfBoundsException, IllegalArgumentException, IllegalStateException {
        Branch of = branchAt(branch);
        checkTask(task);
        checkTask(other);
        if (task == other) {
            throw new IllegalArgumentException("a task cannot need itself");
        }
        if (!of.plan.has(task) || !of.plan.has(other)) {
            throw new IllegalStateException("one of the tasks is not there");
        }
        if (does && contains(of.plan.allNeeds(other), task)) {
            throw new IllegalStateException("a task would need itself");
        }
        boolean did = contains(of.plan.needs[task], other);
        of.history.keep(of.plan, task);
        if (does) {
            of.plan.needs[task] |= 1 << other;
        } else {
            of.plan.needs[task] &= ~(1 << other);
        }
        return did;
    }

    public int undo(int branch) throws IndexOutOfBoundsException, IllegalStateException {
        Branch of = branchAt(branch);
        if (of.history.size == 0) {
            throw new IllegalStateException("no change can be undone");
        }
        of.history.restore(of.plan);
        return of.history.size;
    }

    public int tasks(int branch) throws IndexOutOfBoundsException {
        return branchAt(branch).plan.present();
    }

    public int length(int branch, int task) throws IndexOutOfBoundsException, IllegalArgumentException {
        Branch of = branchAt(branch);
        checkTask(task);
        return of.plan.lengths[task];
    }

    public int crew(int branch, int task) throws IndexOutOfBoundsException, IllegalArgumentException {
        Branch of = branchAt(branch);
        checkTask(task);
        return of.plan.crews[task];
    }

    public int needs(int branch, int task) throws IndexOutOfBoundsException, IllegalArgumentException {
        Branch of = branchAt(branch);
        checkTask(task);
        return of.plan.needs[task];
    }

    public int cost(int branch) throws IndexOutOfBoundsException {
        return branchAt(branch).plan.totalCost();
    }

    // ---- branches

    public int begin(int parent) throws IndexOutOfBoundsException, IllegalStateException {
        Branch from = branchAt(parent);
        int number = begunCount;
        if (number < 0 || number >= begun.length) {
            throw new IllegalStateException("no more branches can be begun");
        }
        Branch made = new Branch(number, from);
        made.plan.copyFrom(from.plan);
        made.base.copyFrom(from.plan);
        from.history.forget();
        begun[number] = made;
        begunCount = number + 1;
        return number;
    }

    public int branches() {
        return begunCount;
    }

    public int parent(int branch) throws IndexOutOfBoundsException {
        Branch from = branchAt(branch).from;
        return from == null ? NONE : from.number;
    }

    public int setBudget(int branch, int budget) throws IndexOutOfBoundsException, IllegalArgumentException {
        Branch of = branchAt(branch);
        checkRange(budget, 0, GREATEST_BUDGET);
        int was = of.budget;
        of.budget = budget;
        return was;
    }

    public int resolve(int branch, int task, int side)
            throws IndexOutOfBoundsException, IllegalArgumentException, IllegalStateException {
        Branch of = branchAt(branch);
        checkTask(task);
        checkRange(side, NONE, PARENT);
        if (of.from == null) {
            throw new IllegalStateException("the branch 0 has no parent");
        }
        int was = of.sides[task];
        of.sides[task] = side;
        return was;
    }

    public int clashes(int branch) throws IndexOutOfBoundsException {
        Branch of = branchAt(branch);
        Branch from = of.from;
        if (from == null) {
            return 0;
        }
        joint.join(of, from);
        return joint.clashing;
    }

    public int reason(int branch, boolean merges) throws IndexOutOfBoundsException, IllegalStateException {
        Branch of = branchAt(branch);
        Branch from = parentOf(of);
        return judge(of, from, merges ? from : of);
    }

    public int reasonTask(int branch, boolean merges) throws IndexOutOfBoundsException, IllegalStateException {
        Branch of = branchAt(branch);
        Branch from = parentOf(of);
        judge(of, from, merges ? from : of);
        return lowest(because);
    }

    public int merge(int branch) throws IndexOutOfBoundsException, IllegalStateException {
        Branch of = branchAt(branch);
        Branch into = parentOf(of);
        if (judge(of, into, into) != 0) {
            throw new IllegalStateException("there is a reason against merging");
        }
        int changed = into.plan.countOthers(joint.plan);
        into.plan.copyFrom(joint.plan);
        into.history.forget();
        of.plan.copyFrom(joint.plan);
        of.startFrom(joint.plan);
        return changed;
    }

    public int update(int branch) throws IndexOutOfBoundsException, IllegalStateException {
        Branch of = branchAt(branch);
        Branch from = parentOf(of);
        if (judge(of, from, of) != 0) {
            throw new IllegalStateException("there is a reason against bringing it up to date");
        }
        int changed = of.plan.countOthers(joint.plan);
        of.plan.copyFrom(joint.plan);
        of.startFrom(from.plan);
        return changed;
    }

    // ---- crews

    public int give(int crew, int branch) throws IndexOutOfBoundsException, IllegalArgumentException {
        branchAt(branch);
        checkRange(crew, 0, CREWS - 1);
        int was = crews.owners[crew];
        crews.owners[crew] = branch;
        return was;
    }

    public int lend(int crew, int branch, int from, int to)
            throws IndexOutOfBoundsException, IllegalArgumentException, IllegalStateException {
        branchAt(branch);
        checkRange(crew, 0, CREWS - 1);
        checkRange(from, 0, DAYS - 1);
        checkRange(to, from, DAYS - 1);
        if (crews.loanCount >= MOST_LOANS) {
            throw new IllegalStateException("there are as many loans as can be");
        }
        crews.lendOut(crew, branch, from, to);
        return crews.loanCount;
    }

    public int holder(int crew, int day) throws IllegalArgumentException {
        checkRange(crew, 0, CREWS - 1);
        checkRange(day, 0, DAYS - 1);
        return crews.heldBy(crew, day);
    }

    // ---- critical ways

    public int tail(int branch, int task) throws IndexOutOfBoundsException, IllegalArgumentException {
        Branch of = branchAt(branch);
        checkTask(task);
        ways.measure(of.plan);
        return ways.tails[task];
    }

    public int slack(int branch, int task) throws IndexOutOfBoundsException, IllegalArgumentException {
        Branch of = branchAt(branch);
        checkTask(task);
        if (!of.plan.has(task)) {
            return NONE;
        }
        ways.measure(of.plan);
        return ways.slackOf(task);
    }

    public int critical(int branch) throws IndexOutOfBoundsException {
        Branch of = branchAt(branch);
        ways.measure(of.plan);
        int found = 0;
        for (int task = 0; task < TASKS; task++) {
            if (of.plan.has(task) && ways.slackOf(task) == 0) {
                found |= 1 << task;
            }
        }
        return found;
    }

    public int way(int branch) throws IndexOutOfBoundsException {
        Branch of = branchAt(branch);
        ways.measure(of.plan);
        return ways.longest;
    }

    // ---- days

    public int firstDay(int branch, int task) throws IndexOutOfBoundsException, IllegalArgumentException {
        Branch of = branchAt(branch);
        checkTask(task);
        placeByRule(of.plan, of);
        return schedule.firstDays[task];
    }

    public int leftOut(int branch) throws IndexOutOfBoundsException {
        Branch of = branchAt(branch);
        placeByRule(of.plan, of);
        return of.plan.present() & ~schedule.placed;
    }

    public int lastDay(int branch) throws IndexOutOfBoundsException {
        Branch of = branchAt(branch);
        placeByRule(of.plan, of);
        return schedule.endOf(of.plan);
    }

    public int lastDayByAll(int branch) throws IndexOutOfBoundsException, IllegalStateException {
        Branch of = branchAt(branch);
        if (Integer.bitCount(of.plan.present()) > MOST_TASKS_BY_ALL) {
            throw new IllegalStateException("there are too many tasks for all orders");
        }
        schedule.start(crews, of.number);
        return schedule.endByAll(of.plan);
    }

    public int taskOn(int branch, int crew, int day) throws IndexOutOfBoundsException, IllegalArgumentException {
        Branch of = branchAt(branch);
        checkRange(crew, 0, CREWS - 1);
        checkRange(day, 0, DAYS - 1);
        placeByRule(of.plan, of);
        return Math.max(NONE, schedule.work[crew][day]);
    }

    // ---- what the calls share

    private Branch branchAt(int number) {
        if (number < 0 || number >= begun.length) {
            throw new IndexOutOfBoundsException("there is no such branch");
        }
        Branch found = begun[number];
        if (found == null) {
            throw new IndexOutOfBoundsException("there is no such branch");
        }
        return found;
    }

    private static Branch parentOf(Branch branch) {
        Branch from = branch.from;
        if (from == null) {
            throw new IllegalStateException("the branch 0 has no parent");
        }
        return from;
    }

    private static void checkTask(int task) {
        checkRange(task, 0, TASKS - 1);
    }

    private static void checkRange(int value, int least, int greatest) {
        if (value < least || value > greatest) {
            throw new IllegalArgumentException("an argument is out of range");
        }
    }

    private static boolean contains(int tasks, int task) {
        return (tasks >> task & 1) != 0;
    }

    private static int lowest(int tasks) {
        for (int task = 0; task < TASKS; task++) {
            if (contains(tasks, task)) {
                return task;
            }
        }
        return NONE;
    }

    private void placeByRule(Plan plan, Branch branch) {
        ways.measure(plan);
        schedule.start(crews, branch.number);
        schedule.placeByTails(plan, ways.tails);
    }

    /**
     * Joins the plans of a branch and its parent for the one of both that would get what comes
     * of it. Answers the first reason against it, or 0, and leaves its tasks in because.
     */
    private int judge(Branch branch, Branch from, Branch getter) {
        joint.join(branch, from);
        Plan plan = joint.plan;
        because = joint.unresolved;
        if (because != 0) {
            return CLASH;
        }
        because = plan.lacking();
        if (because != 0) {
            return MISSING;
        }
        because = plan.ringed();
        if (because != 0) {
            return RING;
        }
        if (plan.totalCost() > getter.budget) {
            return BUDGET;
        }
        placeByRule(plan, getter);
        because = plan.present() & ~schedule.placed;
        return because != 0 ? STUCK : 0;
    }

    /** The tasks of a plan. One that is not there is all zero with no crew, so that two such are equal. */
    private static final class Plan {
        final int[] lengths = new int[TASKS];
        final int[] crews = new int[TASKS];
        final int[] costs = new int[TASKS];
        final int[] needs = new int[TASKS];

        Plan() {
            for (int task = 0; task < TASKS; task++) {
                crews[task] = NONE;
            }
        }

        boolean has(int task) {
            return lengths[task] > 0;
        }

        void put(int task, int length, int crew, int cost, int needed) {
            lengths[task] = length;
            crews[task] = crew;
            costs[task] = cost;
            needs[task] = needed;
        }

        void clear(int task) {
            put(task, 0, NONE, 0, 0);
        }

        void take(Plan other, int task) {
            put(task, other.lengths[task], other.crews[task], other.costs[task], other.needs[task]);
        }

        void copyFrom(Plan other) {
            for (int task = 0; task < TASKS; task++) {
                take(other, task);
            }
        }

        boolean same(Plan other, int task) {
            return lengths[task] == other.lengths[task] && crews[task] == other.crews[task]
                    && costs[task] == other.costs[task] && needs[task] == other.needs[task];
        }

        int countOthers(Plan other) {
            int count = 0;
            for (int task = 0; task < TASKS; task++) {
                if (!same(other, task)) {
                    count++;
                }
            }
            return count;
        }

        int present() {
            int found = 0;
            for (int task = 0; task < TASKS; task++) {
                if (has(task)) {
                    found |= 1 << task;
                }
            }
            return found;
        }

        int totalCost() {
            int sum = 0;
            for (int task = 0; task < TASKS; task++) {
                sum += lengths[task] * costs[task];
            }
            return sum;
        }

        boolean isNeeded(int task) {
            for (int other = 0; other < TASKS; other++) {
                if (contains(needs[other], task)) {
                    return true;
                }
            }
            return false;
        }

        /** All that a task needs, over others or not. */
        int allNeeds(int task) {
            int found = needs[task];
            // A need that is over others is over fewer than TASKS of them.
            for (int round = 0; round < TASKS; round++) {
                int more = found;
                for (int other = 0; other < TASKS; other++) {
                    if (contains(found, other)) {
                        more |= needs[other];
                    }
                }
                if (more == found) {
                    return found;
                }
                found = more;
            }
            return found;
        }

        /** The tasks that need one that is not there. */
        int lacking() {
            int present = present();
            int found = 0;
            for (int task = 0; task < TASKS; task++) {
                if ((needs[task] & ~present) != 0) {
                    found |= 1 << task;
                }
            }
            return found;
        }

        /** The tasks that need themselves, over others or not. */
        int ringed() {
            int found = 0;
            for (int task = 0; task < TASKS; task++) {
                if (contains(allNeeds(task), task)) {
                    found |= 1 << task;
                }
            }
            return found;
        }
    }

    /** What the tasks were ahead of the latest changes of a plan; the oldest is overwritten first. */
    private static final class History {
        private final int[] changed = new int[MOST_UNDOS];
        private final int[] lengths = new int[MOST_UNDOS];
        private final int[] crews = new int[MOST_UNDOS];
        private final int[] costs = new int[MOST_UNDOS];
        private final int[] needs = new int[MOST_UNDOS];
        private int next;
        int size;

        void keep(Plan plan, int task) {
            changed[next] = task;
            lengths[next] = plan.lengths[task];
            crews[next] = plan.crews[task];
            costs[next] = plan.costs[task];
            needs[next] = plan.needs[task];
            next = next + 1 < MOST_UNDOS ? next + 1 : 0;
            if (size < MOST_UNDOS) {
                size++;
            }
        }

        void restore(Plan plan) {
            if (size > 0) {
                next = next > 0 ? next - 1 : MOST_UNDOS - 1;
                size--;
                plan.put(changed[next], lengths[next], crews[next], costs[next], needs[next]);
            }
        }

        void forget() {
            size = 0;
        }
    }

    /** A branch; only the branch 0 is from none. */
    private static final class Branch {
        final int number;
        final Branch from;
        final Plan plan = new Plan();
        final Plan base = new Plan();
        final History history = new History();
        final int[] sides = new int[TASKS];
        int budget = GREATEST_BUDGET;

        Branch(int number, Branch from) {
            this.number = number;
            this.from = from;
            for (int task = 0; task < TASKS; task++) {
                sides[task] = NONE;
            }
        }

        void startFrom(Plan newBase) {
            base.copyFrom(newBase);
            history.forget();
            Arrays.fill(sides, NONE);
        }
    }

    /** What comes of joining the plan of a branch with that of its parent. */
    private static final class Joint {
        final Plan plan = new Plan();
        int clashing;
        int unresolved;

        void join(Branch branch, Branch from) {
            clashing = 0;
            unresolved = 0;
            for (int task = 0; task < TASKS; task++) {
                if (clash(branch.plan, from.plan, branch.base, task)) {
                    clashing |= 1 << task;
                    if (branch.sides[task] == NONE) {
                        unresolved |= 1 << task;
                    }
                    plan.take(branch.sides[task] == PARENT ? from.plan : branch.plan, task);
                } else {
                    joinTask(branch.plan, from.plan, branch.base, task);
                }
            }
        }

        private static boolean clash(Plan own, Plan other, Plan base, int task) {
            if (own.same(base, task) || other.same(base, task) || own.same(other, task)) {
                return false;
            }
            if (!own.has(task) || !other.has(task) || !base.has(task)) {
                return true;
            }
            return apart(own.lengths[task], other.lengths[task], base.lengths[task])
                    || apart(own.crews[task], other.crews[task], base.crews[task])
                    || apart(own.costs[task], other.costs[task], base.costs[task]);
        }

        private static boolean apart(int own, int other, int base) {
            return own != base && other != base && own != other;
        }

        private void joinTask(Plan own, Plan other, Plan base, int task) {
            if (own.same(base, task)) {
                plan.take(other, task);
            } else if (other.same(base, task) || own.same(other, task)) {
                plan.take(own, task);
            } else {
                int turned = own.needs[task] ^ base.needs[task];
                plan.put(task, mixed(own.lengths[task], other.lengths[task], base.lengths[task]),
                        mixed(own.crews[task], other.crews[task], base.crews[task]),
                        mixed(own.costs[task], other.costs[task], base.costs[task]),
                        own.needs[task] & turned | other.needs[task] & ~turned);
            }
        }

        private static int mixed(int own, int other, int base) {
            return own == base ? other : own;
        }
    }

    /** To which branches the crews belong and are lent. */
    private static final class Crews {
        final int[] owners = new int[CREWS];
        // Of the loans only the latest of a day counts, so that no others are kept.
        final int[][] borrowers = new int[CREWS][DAYS];
        int loanCount;

        Crews() {
            for (int crew = 0; crew < CREWS; crew++) {
                for (int day = 0; day < DAYS; day++) {
                    borrowers[crew][day] = NONE;
                }
            }
        }

        void lendOut(int crew, int branch, int from, int to) {
            for (int day = from; day <= to; day++) {
                borrowers[crew][day] = branch;
            }
            loanCount++;
        }

        int heldBy(int crew, int day) {
            int borrower = borrowers[crew][day];
            return borrower == NONE ? owners[crew] : borrower;
        }
    }

    /** The tails, heads and the way of a plan without rings. */
    private static final class Ways {
        final int[] tails = new int[TASKS];
        final int[] heads = new int[TASKS];
        int longest;

        void measure(Plan plan) {
            for (int task = 0; task < TASKS; task++) {
                tails[task] = plan.lengths[task];
                heads[task] = 0;
            }
            // A row has at most TASKS tasks, and each round lets it reach one further.
            boolean grew = true;
            for (int round = 0; grew && round < TASKS; round++) {
                grew = false;
                for (int task = 0; task < TASKS; task++) {
                    grew |= stretch(plan, task);
                }
            }
            longest = 0;
            for (int task = 0; task < TASKS; task++) {
                longest = Math.max(longest, tails[task]);
            }
        }

        /** Lets the head of a task and the tails of its needs reach over it; answers whether one grew. */
        private boolean stretch(Plan plan, int task) {
            boolean grew = false;
            for (int need = 0; need < TASKS; need++) {
                if (contains(plan.needs[task], need)) {
                    int head = heads[need] + plan.lengths[need];
                    int tail = plan.lengths[need] + tails[task];
                    grew |= head > heads[task] || tail > tails[need];
                    heads[task] = Math.max(heads[task], head);
                    tails[need] = Math.max(tails[need], tail);
                }
            }
            return grew;
        }

        int slackOf(int task) {
            return longest - heads[task] - tails[task];
        }
    }

    /** The days of the tasks that are placed for a branch. */
    private static final class Schedule {
        private static final int AWAY = -2;

        final int[] firstDays = new int[TASKS];
        // The task of a crew on a day; NONE if it is free, AWAY if the branch does not hold it.
        final int[][] work = new int[CREWS][DAYS];
        int placed;

        void start(Crews crews, int branch) {
            placed = 0;
            Arrays.fill(firstDays, NONE);
            for (int crew = 0; crew < CREWS; crew++) {
                for (int day = 0; day < DAYS; day++) {
                    work[crew][day] = crews.heldBy(crew, day) == branch ? NONE : AWAY;
                }
            }
        }

        void placeByTails(Plan plan, int[] tails) {
            int untried = plan.present();
            for (int round = 0; round < TASKS; round++) {
                int task = nextByTails(plan, untried, tails);
                if (task == NONE) {
                    return;
                }
                untried &= ~(1 << task);
                int first = earliest(plan, task);
                if (first != NONE) {
                    place(plan, task, first);
                }
            }
        }

        private int nextByTails(Plan plan, int untried, int[] tails) {
            int best = NONE;
            int bestTail = 0;
            for (int task = 0; task < TASKS; task++) {
                if (ready(plan, untried, task) && tails[task] > bestTail) {
                    best = task;
                    bestTail = tails[task];
                }
            }
            return best;
        }

        /** The earliest last day of a plan by all orders; NONE without such an order or a task. */
        int endByAll(Plan plan) {
            int end = endByOrders(this, plan, plan.present(), NONE, DAYS, 0);
            return end < DAYS ? end : NONE;
        }

        /**
         * The earliest last day by all orders of the tasks that are left, behind those that are
         * placed and end on the day end, if it is ahead of best; otherwise best.
         */
        private static int endByOrders(Schedule days, Plan plan, int left, int end, int best, int depth) {
            if (left == 0 || depth >= MOST_TASKS_BY_ALL) {
                return end;
            }
            int found = best;
            for (int task = 0; task < TASKS; task++) {
                int first = days.ready(plan, left, task) ? days.earliest(plan, task) : NONE;
                int newEnd = Math.max(end, first + plan.lengths[task] - 1);
                // More tasks never bring the end forward, so that a late one is left at once.
                if (first != NONE && newEnd < found) {
                    days.place(plan, task, first);
                    found = endByOrders(days, plan, left & ~(1 << task), newEnd, found, depth + 1);
                    days.takeBack(plan, task, first);
                }
            }
            return found;
        }

        private boolean ready(Plan plan, int among, int task) {
            return contains(among, task) && (plan.needs[task] & ~placed) == 0;
        }

        /** The first day on which a task can be placed now; NONE if it cannot. */
        private int earliest(Plan plan, int task) {
            int length = plan.lengths[task];
            int crew = plan.crews[task];
            int from = dayBehindNeeds(plan, task);
            if (crew < 0 || crew >= CREWS) {
                return from + length <= DAYS ? from : NONE;
            }
            int run = 0;
            for (int day = from; day < DAYS; day++) {
                run = work[crew][day] == NONE ? run + 1 : 0;
                if (run == length) {
                    return day - length + 1;
                }
            }
            return NONE;
        }

        private int dayBehindNeeds(Plan plan, int task) {
            int day = 0;
            for (int need = 0; need < TASKS; need++) {
                if (contains(plan.needs[task], need)) {
                    day = Math.max(day, firstDays[need] + plan.lengths[need]);
                }
            }
            return day;
        }

        private void place(Plan plan, int task, int first) {
            firstDays[task] = first;
            placed |= 1 << task;
            markWork(plan, task, first, task);
        }

        private void takeBack(Plan plan, int task, int first) {
            firstDays[task] = NONE;
            placed &= ~(1 << task);
            markWork(plan, task, first, NONE);
        }

        private void markWork(Plan plan, int task, int first, int mark) {
            int crew = plan.crews[task];
            if (first < 0 || crew < 0 || crew >= CREWS) {
                return;
            }
            int behind = first + plan.lengths[task];
            for (int day = first; day < behind && day < DAYS; day++) {
                work[crew][day] = mark;
            }
        }

        int endOf(Plan plan) {
            int end = NONE;
            for (int task = 0; task < TASKS; task++) {
                if (contains(placed, task)) {
                    end = Math.max(end, firstDays[task] + plan.lengths[task] - 1);
                }
            }
            return end;
        }
    }
}
