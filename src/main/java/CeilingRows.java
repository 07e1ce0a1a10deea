import java.util.Arrays;

/** Tasks on several cores, resources with ceilings, locks that cores spin for, and trials of small sets. */
public final class CeilingRows {
    private static final int MAX_TASKS = 10;
    private static final int MAX_RESOURCES = 8;
    private static final int CORES = 3;
    private static final int LOCKS = 8;
    private static final int MAX_RANK = 20;
    private static final int MAX_LENGTH = 1000;
    private static final long MAX_TIME = 1000000000L;

    private static final int UNKNOWN = -1;
    private static final int OUT_OF_RANGE = -2;
    private static final int WRONG_STATE = -3;
    private static final int NO_ROOM = -4;
    private static final int NOT_USED = -11;
    private static final int HELD_ALREADY = -12;
    private static final int NOT_TAKEN_LAST = -13;
    private static final int ENDED_HOLDING = -14;
    private static final int WAIT_HOLDING = -15;
    private static final int LOCK_OUT_OF_ORDER = -16;
    private static final int LOCK_NOT_TAKEN_LAST = -17;

    private static final int START = 0;
    private static final int TAKE = 1;
    private static final int GIVE_BACK = 2;
    private static final int END = 3;
    private static final int WAIT = 4;
    private static final int EVENT = 5;

    private static final int SLEEPS = 0;
    private static final int READY = 1;
    private static final int WAITS = 2;

    private static final int PHASE_BITS = 3;
    private static final int PHASE_MASK = 7;
    private static final int MAX_TRIAL_LENGTH = 3;
    /** Behind the last start there is work on some core at every tick, so no trial goes on for longer. */
    private static final int MAX_TRIAL_TICKS =
            PHASE_MASK + 1 + MAX_TASKS * (1 + MAX_RESOURCES * (MAX_TRIAL_LENGTH + 1));

    private final Plan plan;
    private final Board board;
    private final Locks locks;
    private final Trial trial;
    private final boolean[] eventKept;
    private long latestTime;

    public CeilingRows() {
        plan = new Plan();
        board = new Board(plan);
        locks = new Locks();
        trial = new Trial(plan);
        eventKept = new boolean[MAX_TASKS + 1];
        latestTime = 0;
    }

    public int task(int rank, int core) {
        if (rank < 1 || rank > MAX_RANK || !isCore(core)) {
            return OUT_OF_RANGE;
        }
        if (plan.taskCount >= MAX_TASKS) {
            return NO_ROOM;
        }
        return plan.addTask(rank, core);
    }

    public int resource() {
        if (plan.resourceCount >= MAX_RESOURCES) {
            return NO_ROOM;
        }
        return plan.addResource();
    }

    public int uses(int task, int resource, long length) {
        if (!plan.hasTask(task) || !plan.hasResource(resource)) {
            return UNKNOWN;
        }
        if (length < 1 || length > MAX_LENGTH) {
            return OUT_OF_RANGE;
        }
        int core = plan.coreOf[task];
        if (!board.allSleepOn(core) || plan.isUsedByAnotherCore(resource, core)) {
            return WRONG_STATE;
        }
        int answer = plan.isUsedBy(task, resource) ? 0 : 1;
        plan.setUse(task, resource, (int) length);
        return answer;
    }

    public int ceiling(int resource) {
        return plan.hasResource(resource) ? plan.ceilingOf[resource] : UNKNOWN;
    }

    public int step(int task, int kind, int resource, long t) {
        boolean namesResource = kind == TAKE || kind == GIVE_BACK;
        if (!plan.hasTask(task) || (namesResource && !plan.hasResource(resource))) {
            return UNKNOWN;
        }
        // latestTime is never below 0, so a negative t is below it too
        if (kind < START || kind > EVENT || t < latestTime || t > MAX_TIME) {
            return OUT_OF_RANGE;
        }
        int answer = perform(task, kind, resource);
        if (answer >= 0 || answer == ENDED_HOLDING) {
            latestTime = t;
        }
        return answer;
    }

    public int rank(int task) {
        return plan.hasTask(task) ? board.rankNow(task) : UNKNOWN;
    }

    public int holder(int resource) {
        return plan.hasResource(resource) ? board.holderOf[resource] : UNKNOWN;
    }

    public long blocking(int task) {
        if (!plan.hasTask(task)) {
            return UNKNOWN;
        }
        int longest = 0;
        for (int other = 1; other <= plan.taskCount; other++) {
            longest = Math.max(longest, plan.longestDelay(task, other));
        }
        return longest;
    }

    public int lock(int core, int n) {
        if (!isCore(core)) {
            return UNKNOWN;
        }
        if (n == 0 || n < -LOCKS || n > LOCKS) {
            return OUT_OF_RANGE;
        }
        if (locks.spins(core)) {
            return WRONG_STATE;
        }
        return n > 0 ? locks.acquire(core, n) : locks.release(core, -n);
    }

    public boolean ring() {
        for (int core = 1; core <= CORES; core++) {
            if (locks.waitsForItself(core)) {
                return true;
            }
        }
        return false;
    }

    public int lower(int task, int i) {
        if (!plan.hasTask(task)) {
            return UNKNOWN;
        }
        int found = 0;
        for (int other = 1; other <= plan.taskCount; other++) {
            if (plan.longestDelay(task, other) > 0) {
                if (found == i) {
                    return other;
                }
                found++;
            }
        }
        return 0;
    }

    public int plain(long phases) {
        return trial.mostDelays(phases);
    }

    private static boolean isCore(int core) {
        return core >= 1 && core <= CORES;
    }

    private boolean runs(int task) {
        int core = plan.coreOf[task];
        return !locks.spins(core) && board.firstOn(core) == task;
    }

    private int perform(int task, int kind, int resource) {
        if (kind == START) {
            return startTask(task);
        }
        if (kind == EVENT) {
            return sendEvent(task);
        }
        if (board.stateOf[task] != READY) {
            return WRONG_STATE;
        }
        if (!runs(task)) {
            return 0;
        }
        switch (kind) {
            case TAKE:
                return takeResource(task, resource);
            case GIVE_BACK:
                return giveBackResource(task, resource);
            case END:
                return endTask(task);
            default:
                return waitForEvent(task);
        }
    }

    private int startTask(int task) {
        if (board.stateOf[task] != SLEEPS) {
            return WRONG_STATE;
        }
        board.makeReady(task);
        return runs(task) ? 1 : 0;
    }

    private int sendEvent(int task) {
        if (board.stateOf[task] == SLEEPS) {
            return WRONG_STATE;
        }
        if (board.stateOf[task] == WAITS) {
            board.makeReady(task);
        } else {
            eventKept[task] = true;
        }
        return runs(task) ? 1 : 0;
    }

    private int takeResource(int task, int resource) {
        if (!plan.isUsedBy(task, resource)) {
            return NOT_USED;
        }
        if (board.holderOf[resource] == task) {
            return HELD_ALREADY;
        }
        board.take(task, resource);
        return 1;
    }

    private int giveBackResource(int task, int resource) {
        if (board.lastTakenBy[task] != resource) {
            return NOT_TAKEN_LAST;
        }
        board.giveBackLast(task);
        return 1;
    }

    private int endTask(int task) {
        int answer = board.holdsAny(task) ? ENDED_HOLDING : 1;
        board.putToSleep(task);
        eventKept[task] = false;
        return answer;
    }

    private int waitForEvent(int task) {
        if (board.holdsAny(task)) {
            return WAIT_HOLDING;
        }
        if (eventKept[task]) {
            eventKept[task] = false;
            return 1;
        }
        board.stateOf[task] = WAITS;
        return 0;
    }

    /** Which tasks and resources there are, and who uses what for how long. */
    private static final class Plan {
        int taskCount;
        int resourceCount;
        final int[] rankOf = new int[MAX_TASKS + 1];
        final int[] coreOf = new int[MAX_TASKS + 1];
        /** Uses are never taken back and ranks never change, so a ceiling only rises: it is kept, not sought. */
        final int[] ceilingOf = new int[MAX_RESOURCES + 1];
        private final int[] userCoreOf = new int[MAX_RESOURCES + 1];
        /** By task and resource; 0 stands for no use. */
        final int[][] lengthOf = new int[MAX_TASKS + 1][MAX_RESOURCES + 1];

        boolean hasTask(int task) {
            return task >= 1 && task <= taskCount;
        }

        boolean hasResource(int resource) {
            return resource >= 1 && resource <= resourceCount;
        }

        int addTask(int rank, int core) {
            taskCount++;
            rankOf[taskCount] = rank;
            coreOf[taskCount] = core;
            return taskCount;
        }

        int addResource() {
            resourceCount++;
            return resourceCount;
        }

        boolean isUsedBy(int task, int resource) {
            return lengthOf[task][resource] > 0;
        }

        boolean isUsedByAnotherCore(int resource, int core) {
            return userCoreOf[resource] != 0 && userCoreOf[resource] != core;
        }

        void setUse(int task, int resource, int length) {
            lengthOf[task][resource] = length;
            userCoreOf[resource] = coreOf[task];
            ceilingOf[resource] = Math.max(ceilingOf[resource], rankOf[task]);
        }

        boolean isBelow(int other, int task) {
            return coreOf[other] == coreOf[task] && rankOf[other] < rankOf[task];
        }

        /** The longest that the other task may keep the task waiting, 0 if it may not at all. */
        int longestDelay(int task, int other) {
            if (!isBelow(other, task)) {
                return 0;
            }
            int longest = 0;
            for (int resource = 1; resource <= resourceCount; resource++) {
                if (ceilingOf[resource] >= rankOf[task]) {
                    longest = Math.max(longest, lengthOf[other][resource]);
                }
            }
            return longest;
        }
    }

    /** Which tasks are ready, since when, and what they hold: one board for the steps, one for the trials. */
    private static final class Board {
        private final Plan plan;
        final int[] stateOf = new int[MAX_TASKS + 1];
        private final int[] readyOrderOf = new int[MAX_TASKS + 1];
        private int readyOrder;
        final int[] lastTakenBy = new int[MAX_TASKS + 1];
        final int[] holderOf = new int[MAX_RESOURCES + 1];
        /** What the holder had taken last before it took this one: a chain in the order of giving back. */
        private final int[] takenBefore = new int[MAX_RESOURCES + 1];

        Board(Plan plan) {
            this.plan = plan;
        }

        void clear() {
            Arrays.fill(stateOf, SLEEPS);
            Arrays.fill(readyOrderOf, 0);
            readyOrder = 0;
            Arrays.fill(lastTakenBy, 0);
            Arrays.fill(holderOf, 0);
            Arrays.fill(takenBefore, 0);
        }

        boolean allSleepOn(int core) {
            for (int task = 1; task <= plan.taskCount; task++) {
                if (plan.coreOf[task] == core && stateOf[task] != SLEEPS) {
                    return false;
                }
            }
            return true;
        }

        void makeReady(int task) {
            stateOf[task] = READY;
            readyOrder++;
            readyOrderOf[task] = readyOrder;
        }

        boolean holdsAny(int task) {
            return lastTakenBy[task] != 0;
        }

        int rankNow(int task) {
            int rank = plan.rankOf[task];
            for (int resource = 1; resource <= plan.resourceCount; resource++) {
                if (holderOf[resource] == task) {
                    rank = Math.max(rank, plan.ceilingOf[resource]);
                }
            }
            return rank;
        }

        /** The task that runs on a core if the core does not spin; 0 if none is ready. */
        int firstOn(int core) {
            int first = 0;
            int firstRank = 0;
            for (int task = 1; task <= plan.taskCount; task++) {
                if (plan.coreOf[task] != core || stateOf[task] != READY) {
                    continue;
                }
                int rank = rankNow(task);
                boolean readyLonger = readyOrderOf[task] < readyOrderOf[first];
                if (rank > firstRank || (rank == firstRank && readyLonger)) {
                    first = task;
                    firstRank = rank;
                }
            }
            return first;
        }

        /** The ceilings keep every other user from running while a resource is held, so it is free here. */
        void take(int task, int resource) {
            holderOf[resource] = task;
            takenBefore[resource] = lastTakenBy[task];
            lastTakenBy[task] = resource;
        }

        void giveBackLast(int task) {
            int resource = lastTakenBy[task];
            if (resource != 0) {
                lastTakenBy[task] = takenBefore[resource];
                takenBefore[resource] = 0;
                holderOf[resource] = 0;
            }
        }

        void putToSleep(int task) {
            for (int given = 0; given < MAX_RESOURCES && holdsAny(task); given++) {
                giveBackLast(task);
            }
            stateOf[task] = SLEEPS;
        }
    }

    /** Which core holds which lock, and which cores spin for one. */
    private static final class Locks {
        private final int[] ownerOf = new int[LOCKS + 1];
        /** By core; 0 stands for a core that does not spin. */
        private final int[] wantedBy = new int[CORES + 1];
        private final int[] spinOrderOf = new int[CORES + 1];
        private int spinOrder;

        boolean spins(int core) {
            return wantedBy[core] != 0;
        }

        /** A core takes its locks in rising order, so the greatest that it holds is also the last one. */
        private int lastTakenBy(int core) {
            for (int n = LOCKS; n >= 1; n--) {
                if (ownerOf[n] == core) {
                    return n;
                }
            }
            return 0;
        }

        int acquire(int core, int n) {
            if (n <= lastTakenBy(core)) {
                return LOCK_OUT_OF_ORDER;
            }
            if (ownerOf[n] == 0) {
                ownerOf[n] = core;
                return 1;
            }
            wantedBy[core] = n;
            spinOrder++;
            spinOrderOf[core] = spinOrder;
            return 0;
        }

        int release(int core, int n) {
            if (n != lastTakenBy(core)) {
                return LOCK_NOT_TAKEN_LAST;
            }
            int next = longestSpinnerFor(n);
            ownerOf[n] = next;
            wantedBy[next] = 0;
            return 1;
        }

        private int longestSpinnerFor(int n) {
            int longest = 0;
            for (int core = 1; core <= CORES; core++) {
                boolean longer = longest == 0 || spinOrderOf[core] < spinOrderOf[longest];
                if (wantedBy[core] == n && longer) {
                    longest = core;
                }
            }
            return longest;
        }

        boolean waitsForItself(int core) {
            int at = core;
            for (int hop = 0; hop < CORES && spins(at); hop++) {
                at = ownerOf[wantedBy[at]];
                if (at == core) {
                    return true;
                }
            }
            return false;
        }
    }

    /** Runs the plan from tick 0 on with given starts, on a board of its own. */
    private static final class Trial {
        private final Plan plan;
        private final Board board;
        private final int[] ticksHad = new int[MAX_TASKS + 1];
        /** By the delayed task and the delaying one: a bit for each resource of the delay. */
        private final int[][] delays = new int[MAX_TASKS + 1][MAX_TASKS + 1];
        private int endedCount;

        Trial(Plan plan) {
            this.plan = plan;
            board = new Board(plan);
        }

        int mostDelays(long phases) {
            clear();
            for (int tick = 0; tick < MAX_TRIAL_TICKS && endedCount < plan.taskCount; tick++) {
                startThoseDue(phases, tick);
                for (int core = 1; core <= CORES; core++) {
                    int task = board.firstOn(core);
                    if (task != 0) {
                        haveTick(task);
                    }
                }
            }
            int most = 0;
            for (int task = 1; task <= plan.taskCount; task++) {
                most = Math.max(most, countDelays(task));
            }
            return most;
        }

        private void clear() {
            board.clear();
            endedCount = 0;
            Arrays.fill(ticksHad, 0);
            for (int task = 1; task <= plan.taskCount; task++) {
                Arrays.fill(delays[task], 0);
            }
        }

        private void startThoseDue(long phases, int tick) {
            for (int task = 1; task <= plan.taskCount; task++) {
                long phase = (phases >>> (PHASE_BITS * (task - 1))) & PHASE_MASK;
                if (phase == tick) {
                    board.makeReady(task);
                }
            }
        }

        private void haveTick(int task) {
            int resource = resourceAt(task, ticksHad[task]);
            if (resource != 0) {
                if (board.holderOf[resource] != task) {
                    board.take(task, resource);
                }
                noteDelays(task, resource);
            }
            ticksHad[task]++;
            if (resource != 0 && resourceAt(task, ticksHad[task]) != resource) {
                board.giveBackLast(task);
            }
            if (ticksHad[task] >= ticksOf(task)) {
                board.putToSleep(task);
                endedCount++;
            }
        }

        private void noteDelays(int by, int resource) {
            for (int task = 1; task <= plan.taskCount; task++) {
                if (board.stateOf[task] == READY && plan.isBelow(by, task)) {
                    delays[task][by] |= 1 << resource;
                }
            }
        }

        private int countDelays(int task) {
            int count = 0;
            for (int by = 1; by <= plan.taskCount; by++) {
                count += Integer.bitCount(delays[task][by]);
            }
            return count;
        }

        private int ticksWith(int task, int resource) {
            return Math.min(plan.lengthOf[task][resource], MAX_TRIAL_LENGTH);
        }

        private int ticksOf(int task) {
            int ticks = 1;
            for (int resource = 1; resource <= plan.resourceCount; resource++) {
                if (plan.isUsedBy(task, resource)) {
                    ticks += ticksWith(task, resource) + 1;
                }
            }
            return ticks;
        }

        /** The resource with which a task has a tick of its own, counted from 0; 0 without one. */
        private int resourceAt(int task, int ownTick) {
            int first = 1;
            for (int resource = 1; resource <= plan.resourceCount; resource++) {
                if (plan.isUsedBy(task, resource)) {
                    int behind = first + ticksWith(task, resource);
                    if (ownTick >= first && ownTick < behind) {
                        return resource;
                    }
                    first = behind + 1;
                }
            }
            return 0;
        }
    }
}
