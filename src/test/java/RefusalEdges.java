/** Refused calls of busy, full and empty objects: their answers, that they change nothing, and their order. */
final class RefusalEdges {
    private static final String REFUSALS = "REFUSALS change nothing and answer, the first that fits: -1 an unknown "
            + "number, -2 outside a range, -3 not in this state, -4 no room.";
    private static final String ANSWERS_BELOW_0 = "Answers below 0 change nothing, but -14.";
    private static final long TIME = 20;

    /**
     * Core 1: task 1 runs, holds 3 and then 2, and has an event; tasks 4 (with an event) and 3 are ready; 2 sleeps.
     * Core 2: task 6 waits, task 5 runs, holds 4 and has an event. Core 3 spins for lock 4, task 8 is ready, 7 sleeps.
     */
    private static final String[] BUSY = {
        "task 3 1", "task 7 1", "task 5 1", "task 3 1", "task 4 2", "task 9 2", "task 6 3", "task 2 3",
        "resource", "resource", "resource", "resource", "resource",
        "uses 1 1 10", "uses 2 1 10", "uses 1 2 9", "uses 3 2 8", "uses 1 3 2", "uses 5 4 6", "uses 6 4 3",
        "START 1 10", "TAKE 1 3 11", "TAKE 1 2 11", "START 4 12", "START 3 13", "EVENT 1 14",
        "START 6 15", "WAIT 6 15", "START 5 16", "EVENT 5 16", "TAKE 5 4 17", "START 8 18",
        "lock 1 4", "lock 3 2", "lock 3 4", "lock 1 6", "EVENT 4 20"};

    private RefusalEdges() {
    }

    static void check() {
        refusalsOfTheBusyObject();
        stepAnswersBelowZero();
        refusalsOfTheFullObject();
        refusalsOfTheEmptyObject();
        questionsChangeNothing();
        oneThatDoesNotRunChangesNothing();
        endThatHeldGivesBackAndEnds();
        theFirstThatFits();
    }

    private static String[] full() {
        String[] calls = new String[BUSY.length + 5];
        System.arraycopy(BUSY, 0, calls, 0, BUSY.length);
        String[] more = {"task 1 3", "task 20 1", "resource", "resource", "resource"};
        System.arraycopy(more, 0, calls, BUSY.length, more.length);
        return calls;
    }

    private static void eachChangesNothing(Twins twins, String[] state, long answer, String... calls) {
        for (String call : calls) {
            twins.changesNothing(state, call, answer);
        }
    }

    private static void refusalsOfTheBusyObject() {
        Twins twins = new Twins(REFUSALS, TIME);
        eachChangesNothing(twins, BUSY, -1, "uses 0 5 5", "uses 9 5 5", "uses 7 0 5", "uses 7 6 5", "ceiling 0",
                "ceiling 6", "rank 0", "rank 9", "holder 0", "holder 6", "blocking 0", "blocking 9", "lower 0 0",
                "lower 9 0", "lock 0 1", "lock 4 1", "lock 0 -2", "lock 4 -4");
        eachChangesNothing(twins, BUSY, -1, "START 0 30", "START 9 30", "TAKE 1 0 30", "TAKE 1 6 30", "GIVE 1 0 30",
                "GIVE 1 6 30", "END 9 30", "WAIT 9 30", "EVENT 9 30", "EVENT 0 30", "TAKE 9 2 30", "GIVE 9 2 30");
        eachChangesNothing(twins, BUSY, -2, "task 0 1", "task 21 1", "task 5 0", "task 5 4", "uses 7 5 0",
                "uses 7 5 1001", "uses 8 5 -1", "lock 1 0", "lock 1 9", "lock 1 -9", "lock 3 0", "lock 2 9");
        eachChangesNothing(twins, BUSY, -2, "step 1 -1 1 30", "step 1 6 2 30", "TAKE 1 1 19", "TAKE 1 1 1000000001",
                "TAKE 1 1 -1", "GIVE 1 2 19", "GIVE 1 2 1000000001", "END 1 19", "END 1 1000000001", "START 2 19",
                "START 2 1000000001", "EVENT 6 19", "EVENT 3 19", "EVENT 3 1000000001", "WAIT 4 19", "END 3 19");
        eachChangesNothing(twins, BUSY, -3, "uses 1 5 5", "uses 2 1 99", "uses 2 5 5", "uses 1 1 99", "uses 5 4 99",
                "uses 6 5 5", "uses 7 5 5", "lock 3 5", "lock 3 4", "lock 3 1", "lock 3 -2", "lock 3 -4");
        eachChangesNothing(twins, BUSY, -3, "START 1 30", "START 4 30", "START 6 30", "START 8 30", "TAKE 2 1 30",
                "GIVE 2 1 30", "END 2 30", "WAIT 2 30", "EVENT 2 30", "TAKE 6 4 30", "GIVE 6 4 30", "END 6 30",
                "WAIT 6 30", "END 7 30", "EVENT 7 30");
    }

    private static void stepAnswersBelowZero() {
        Twins twins = new Twins(ANSWERS_BELOW_0, TIME);
        eachChangesNothing(twins, BUSY, -11, "TAKE 1 4 30", "TAKE 1 5 30", "TAKE 5 5 30", "TAKE 5 1 30", "TAKE 5 2 20");
        eachChangesNothing(twins, BUSY, -12, "TAKE 1 2 30", "TAKE 1 3 30", "TAKE 5 4 30", "TAKE 1 3 20");
        eachChangesNothing(twins, BUSY, -13, "GIVE 1 3 30", "GIVE 1 1 30", "GIVE 1 4 30", "GIVE 1 5 30", "GIVE 5 5 30",
                "GIVE 5 2 30", "GIVE 1 3 20");
        eachChangesNothing(twins, BUSY, -15, "WAIT 1 30", "WAIT 5 30", "WAIT 1 20");
        Twins locks = new Twins("A CORE takes one: -16 if it is not greater than all that it holds", TIME);
        eachChangesNothing(locks, BUSY, -16, "lock 1 6", "lock 1 5", "lock 1 4", "lock 1 2", "lock 1 1");
        Twins givenBack = new Twins("It gives one back: -17 if it is not the one that it took last", TIME);
        eachChangesNothing(givenBack, BUSY, -17, "lock 1 -4", "lock 1 -2", "lock 1 -8", "lock 1 -1", "lock 2 -4",
                "lock 2 -2", "lock 2 -1");
    }

    private static void refusalsOfTheFullObject() {
        Twins twins = new Twins(REFUSALS, TIME);
        eachChangesNothing(twins, full(), -4, "task 5 1", "task 1 1", "task 20 3", "resource");
        eachChangesNothing(twins, full(), -2, "task 0 1", "task 21 3", "task 5 0", "task 20 4");
        eachChangesNothing(twins, full(), -1, "uses 11 8 5", "uses 10 9 5", "rank 11", "holder 9", "ceiling 9",
                "blocking 11", "lower 11 0", "START 11 30", "TAKE 1 9 30", "GIVE 5 9 30");
    }

    private static void refusalsOfTheEmptyObject() {
        String[] empty = {};
        Twins twins = new Twins(REFUSALS, 0);
        eachChangesNothing(twins, empty, -1, "uses 1 1 1", "ceiling 1", "holder 1", "rank 1", "blocking 1", "lower 1 0",
                "START 1 5", "TAKE 1 1 5", "lock 0 1", "lock 4 -1");
        eachChangesNothing(twins, empty, -2, "task 0 1", "task 1 0", "task 21 3", "task 20 4", "lock 1 0", "lock 3 9");
        eachChangesNothing(twins, empty, -17, "lock 1 -1", "lock 2 -8", "lock 3 -4");
        String[] asleep = {"task 4 1", "task 5 2", "resource"};
        eachChangesNothing(twins, asleep, -3, "END 1 5", "TAKE 1 1 5", "GIVE 2 1 5", "WAIT 2 5", "EVENT 1 5");
        eachChangesNothing(twins, asleep, -2, "START 1 -1", "START 1 1000000001", "uses 1 1 0", "uses 1 1 1001");
    }

    private static void questionsChangeNothing() {
        Twins twins = new Twins(REFUSALS, TIME);
        eachChangesNothing(twins, BUSY, 5, "rank 1", "ceiling 2", "holder 4");
        eachChangesNothing(twins, BUSY, 0, "holder 1", "ceiling 5", "blocking 8", "lower 8 0", "lower 1 -1", "ring");
        Twins trials = new Twins("A TRIAL is apart from all that, nothing of it stays", TIME);
        // task 1 starts at 0 and task 2 at 2, the others of their core at 7; or task 5 at 0 and task 6 at 2
        eachChangesNothing(trials, BUSY, 1, "plain " + 0_7720, "plain " + 0_200000);
        eachChangesNothing(trials, BUSY, 0, "plain 0", "plain -1");
    }

    private static void oneThatDoesNotRunChangesNothing() {
        // at the latest time not even the time changes
        Twins twins = new Twins("All others answer 0 if it does not RUN", TIME);
        eachChangesNothing(twins, BUSY, 0, "TAKE 3 2 20", "GIVE 3 2 20", "END 3 20", "WAIT 3 20", "TAKE 4 1 20",
                "WAIT 4 20", "END 4 20", "TAKE 8 1 20", "GIVE 8 2 20", "END 8 20", "WAIT 8 20");
    }

    private static void endThatHeldGivesBackAndEnds() {
        Twins twins = new Twins(ANSWERS_BELOW_0, 25);
        twins.sameState(BUSY, new String[] {"END 5 25"}, new String[] {"GIVE 5 4 20", "END 5 25"});
        String[] alone = {"task 3 1", "task 3 1", "task 9 1", "resource", "resource", "resource", "uses 1 1 5",
            "uses 3 1 5", "uses 1 2 5", "uses 1 3 5", "uses 2 3 5", "START 1 0", "START 2 1", "EVENT 1 1"};
        String[] givenBack = {"END 1 25"};
        int[][] orders = {{1, 2, 3}, {1, 3, 2}, {2, 1, 3}, {2, 3, 1}, {3, 1, 2}, {3, 2, 1}};
        for (int[] o : orders) {
            String[] held = {"TAKE 1 " + o[0] + " 1", "TAKE 1 " + o[1] + " 2", "TAKE 1 " + o[2] + " 3", "END 1 25"};
            twins.sameState(alone, held, givenBack);
        }
        Script s = Script.of(ANSWERS_BELOW_0).made(BUSY).due("END 5 25", -14);
        s.due("holder 4", 0).due("rank 5", 4).due("START 5 24", -2).due("START 5 25", 1).due("WAIT 5 25", 0);
    }

    /** Where two or three refusals fit one call. */
    private static void theFirstThatFits() {
        Script s = Script.of(REFUSALS).made(full());
        // -2 before -4
        s.due("task 0 1", -2).due("task 21 1", -2).due("task 1 0", -2).due("task 1 4", -2).due("task 1 3", -4);
        // -1 before -2 and -3
        s.due("uses 11 1 0", -1).due("uses 1 9 1001", -1).due("uses 0 0 0", -1).due("uses 1 9 5", -1);
        s.due("uses 11 1 5", -1).due("step 11 6 0 30", -1).due("START 11 19", -1).due("TAKE 1 9 19", -1);
        s.due("GIVE 2 0 30", -1).due("TAKE 6 9 30", -1).due("GIVE 6 9 1000000001", -1).due("TAKE 4 9 20", -1);
        s.due("lock 0 0", -1).due("lock 4 9", -1).due("lock 4 -9", -1).due("lower 11 -1", -1);
        // -2 before -3, 0 and all the other answers
        s.due("uses 1 1 0", -2).due("uses 7 1 1001", -2).due("uses 1 4 0", -2).due("lock 3 0", -2).due("lock 3 9", -2);
        s.due("START 1 19", -2).due("EVENT 2 19", -2).due("END 2 1000000001", -2).due("TAKE 6 4 19", -2);
        s.due("step 2 6 0 30", -2).due("step 6 -1 9 30", -2).due("step 1 6 9 19", -2).due("TAKE 1 5 19", -2);
        s.due("TAKE 1 2 19", -2).due("GIVE 1 3 19", -2).due("WAIT 1 19", -2).due("END 1 19", -2).due("END 4 19", -2);
        // -3 before 0, -11, -12, -13, -16 and -17
        s.due("END 7 20", -3).due("TAKE 7 5 20", -3).due("GIVE 2 5 20", -3).due("TAKE 6 5 20", -3);
        s.due("GIVE 6 5 20", -3).due("lock 3 1", -3).due("lock 3 2", -3).due("lock 3 -1", -3).due("uses 1 4 5", -3);
        // 0 before -11 and -13
        s.due("TAKE 4 5 20", 0).due("GIVE 4 5 20", 0).due("TAKE 8 5 20", 0).due("GIVE 8 2 20", 0);
        // -16 before 0
        s.due("lock 1 2", -16).due("lock 1 7", 1);
    }
}
