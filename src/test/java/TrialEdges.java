/** The edges of promise 13, and of the terms on trials. */
final class TrialEdges {
    private static final int ALWAYS_LATE = 7;

    private TrialEdges() {
    }

    static void check() {
        nothingOfItStays();
        apartFromAllThat();
        startsByBits();
        bitsThatNoTaskHas();
        aTickWithoutAtFirst();
        lengthsUpToThree();
        resourcesByNumbers();
        aTickWithoutBehindEach();
        startsByNumbers();
        oneTickOnEachCore();
        takenBeforeItsFirstTick();
        givenBackBehindItsLastTick();
        endsBehindItsLastTick();
        noCoreSpins();
        emptyAndSmallSets();
        onlyOneOfLessRankDelays();
        onlyOneOfTheSameCoreDelays();
        onlyOneStartedAndNotEndedIsDelayed();
        theGreatestNumberNotTheSum();
        delayBehindManyTicks();
        theFullObject();
    }

    /** A call of plain with the start ticks of tasks 1, 2, .. */
    private static String plain(int... starts) {
        long phases = 0;
        for (int k = 0; k < starts.length; k++) {
            phases |= (long) starts[k] << (3 * k);
        }
        return "plain " + phases;
    }

    /**
     * Task 1 of rank 3 and task 2 of rank 9, which use resource 1. Started at 0, task 1 has tick 0 without, the ticks
     * from 1 on with it, and one without.
     */
    private static Script pair(String sentence, long length) {
        return Script.of(sentence).made("task 3 1", "task 9 1", "resource", "uses 1 1 " + length, "uses 2 1 1");
    }

    /** Task 1 starts at 0, task 2 at each tick in turn. */
    private static void dueByStart(Script s, int... dueAt) {
        for (int at = 0; at < dueAt.length; at++) {
            s.due(plain(0, at), dueAt[at]);
        }
    }

    private static void nothingOfItStays() {
        Script s = pair("A TRIAL is apart from all that, nothing of it stays; there are TICKS from 0 on.", 3);
        for (int round = 0; round < 3; round++) {
            s.due(plain(0, 2), 1).due(plain(0, 1), 0).due(plain(0, 3), 1).due(plain(0, 4), 0);
        }
        s.due("holder 1", 0).due("rank 1", 3).due("rank 2", 9).due("ceiling 1", 9).due("END 1 0", -3).due("ring", 0);
        s.due("uses 1 1 3", 0).due("START 1 0", 1).due("WAIT 1 0", 0).due("lock 1 1", 1);
    }

    private static void apartFromAllThat() {
        Script s = pair("A TRIAL is apart from all that", 3);
        s.made("START 1 5", "TAKE 1 1 5").due("START 2 5", 0).made("EVENT 2 5", "EVENT 1 6");
        dueByStart(s, 0, 0, 1, 1, 0, 0, 0, 0);
        s.due("holder 1", 1).due("rank 1", 9).due("START 1 5", -2).due("START 1 6", -3).due("END 2 6", 0);
        s.due("GIVE 1 1 6", 1).due("WAIT 2 6", 1).due("WAIT 2 6", 0).due(plain(0, 2), 1).due("WAIT 1 6", 1);
        s.due("EVENT 2 6", 1).due("END 2 6", 1).due("END 1 6", 1);
    }

    /** Each task in turn is the low one or the high one against another; all others are on a core of their own. */
    private static void startsByBits() {
        for (int low = 1; low <= 10; low++) {
            for (int high = 1; high <= 10; high++) {
                if (low != high) {
                    startsByBits(low, high);
                }
            }
        }
    }

    private static void startsByBits(int low, int high) {
        Script s = Script.of("Task k STARTS at the TICK that the bits 3 (k - 1) to 3 (k - 1) + 2 tell.");
        for (int k = 1; k <= 10; k++) {
            s.made(k == low ? "task 3 2" : k == high ? "task 9 2" : "task 20 1");
        }
        s.made("resource", "uses " + low + " 1 3", "uses " + high + " 1 1");
        for (int lowStart = 0; lowStart < 8; lowStart++) {
            for (int highStart = 0; highStart < 8; highStart++) {
                int behind = highStart - lowStart;
                int[] starts = new int[10];
                starts[low - 1] = lowStart;
                starts[high - 1] = highStart;
                s.due(plain(starts), behind == 2 || behind == 3 ? 1 : 0);
            }
        }
    }

    private static void bitsThatNoTaskHas() {
        Script s = pair("Task k STARTS at the TICK that the bits 3 (k - 1) to 3 (k - 1) + 2 tell.", 3);
        long delayed = 2L << 3;
        long early = 1L << 3;
        for (int bit = 6; bit < 64; bit++) {
            s.due("plain " + (delayed | 1L << bit), 1).due("plain " + (early | 1L << bit), 0);
        }
        s.due("plain " + (delayed | -1L << 6), 1).due("plain " + (early | -1L << 6), 0);
        s.due("plain -1", 0).due("plain " + Long.MIN_VALUE, 0).due("plain " + Long.MAX_VALUE, 0);
        s.due("plain " + (Long.MIN_VALUE + delayed), 1).due("plain " + (Long.MAX_VALUE - 7 - (5L << 3)), 1);
    }

    private static void aTickWithoutAtFirst() {
        Script s = pair("It has a TICK without", 1);
        // at 1 task 1 is about to take the resource, at 2 it has given it back
        dueByStart(s, 0, 0, 0, 0, 0, 0, 0, 0);
        dueByStart(pair("It has a TICK without", 2), 0, 0, 1, 0, 0, 0, 0, 0);
    }

    private static void lengthsUpToThree() {
        String sentence = "and then, for each resource that it USES, by numbers, as many TICKS with it as its LENGTH, "
                + "3 at most, and a TICK without.";
        dueByStart(pair(sentence, 2), 0, 0, 1, 0, 0, 0, 0, 0);
        dueByStart(pair(sentence, 3), 0, 0, 1, 1, 0, 0, 0, 0);
        dueByStart(pair(sentence, 4), 0, 0, 1, 1, 0, 0, 0, 0);
        dueByStart(pair(sentence, 1000), 0, 0, 1, 1, 0, 0, 0, 0);
        // the length of now, and a use of now
        Script s = pair(sentence, 1000).made("uses 1 1 2");
        dueByStart(s, 0, 0, 1, 0, 0, 0, 0, 0);
        s.made("uses 1 1 1");
        dueByStart(s, 0, 0, 0, 0, 0, 0, 0, 0);
        s.made("resource", "uses 2 2 1", "uses 1 2 2");
        // 0 without, 1 with the first, 2 without, 3 and 4 with the second, 5 without
        dueByStart(s, 0, 0, 0, 0, 1, 0, 0, 0);
    }

    private static void resourcesByNumbers() {
        for (int first = 1; first <= 7; first++) {
            for (int second = first + 1; second <= 8; second++) {
                Script s = Script.of("for each resource that it USES, by numbers");
                s.made("task 3 1", "task 9 1");
                for (int r = 1; r <= 8; r++) {
                    s.made("resource");
                }
                s.made("uses 1 " + second + " 3", "uses 1 " + first + " 2", "uses 2 " + second + " 1");
                // 1 and 2 with the first, 3 without, 4 to 6 with the second, whose ceiling alone reaches task 2
                dueByStart(s, 0, 0, 0, 0, 0, 1, 1, 0);
                s.made("uses 2 " + first + " 1");
                dueByStart(s, 0, 0, 1, 0, 0, 1, 1, 0);
            }
        }
    }

    private static void aTickWithoutBehindEach() {
        Script s = pair("and a TICK without.", 1).made("resource", "resource");
        s.made("uses 1 2 1", "uses 1 3 2", "uses 2 3 1");
        // 1 with the first, 2 without, 3 with the second, 4 without, 5 and 6 with the third
        dueByStart(s, 0, 0, 0, 0, 0, 0, 1, 0);
        // the last tick without is its own too: task 3 has it behind task 1, which is ready longer
        Script t = Script.of("and a TICK without.").made("task 3 1", "task 9 1", "task 3 1", "resource", "resource");
        t.made("uses 1 1 1", "uses 3 2 2", "uses 2 2 1");
        // task 1 has 0 to 2, task 3 has 3 without, 4 and 5 with its resource
        t.due(plain(0, 3, 0), 0).due(plain(0, 4, 0), 0).due(plain(0, 5, 0), 1).due(plain(0, 6, 0), 0);
    }

    private static void startsByNumbers() {
        String sentence = "At each TICK those START that start then, by numbers;";
        // tasks 1 and 2 of one rank; the one with the resource goes first, or one tick later
        Script s = Script.of(sentence).made("task 3 1", "task 3 1", "task 9 1", "resource", "uses 1 1 2", "uses 3 1 1");
        s.due(plain(0, 0, 1), 0).due(plain(0, 0, 2), 1).due(plain(0, 0, 3), 0);
        s.due(plain(1, 0, 2), 0).due(plain(1, 0, 3), 1).due(plain(4, 4, 6), 1).due(plain(4, 4, 5), 0);
        Script t = Script.of(sentence).made("task 3 1", "task 3 1", "task 9 1", "resource", "uses 2 1 2", "uses 3 1 1");
        t.due(plain(0, 0, 2), 0).due(plain(0, 0, 3), 1).due(plain(0, 0, 4), 0);
        t.due(plain(1, 0, 2), 1).due(plain(1, 0, 3), 0).due(plain(4, 4, 6), 0).due(plain(4, 4, 7), 1);
        // they start before the ticks are had: a task has its first tick at the tick at which it starts
        Script u = pair(sentence, 2).made("task 20 1");
        u.due(plain(0, 2, 0), 0).due(plain(0, 3, 0), 1).due(plain(0, 4, 0), 0).due(plain(0, 3, 7), 0);
        u.due(plain(0, 2, 7), 1);
    }

    private static void oneTickOnEachCore() {
        String sentence = "then on each CORE the one that RUNS has one of its TICKS:";
        for (int core = 1; core <= 3; core++) {
            int second = core % 3 + 1;
            int third = second % 3 + 1;
            Script s = Script.of(sentence).made("task 3 " + core, "task 9 " + core, "task 20 " + second,
                    "task 20 " + third, "resource", "resource", "resource", "uses 1 1 3", "uses 2 1 1");
            // the other two cores are busy with greater ranks meanwhile
            s.made("uses 3 2 3", "uses 4 3 3");
            s.due(plain(0, 1, 0, 0), 0).due(plain(0, 2, 0, 0), 1).due(plain(0, 3, 0, 0), 1).due(plain(0, 4, 0, 0), 0);
        }
        // one tick and not more, and none for the others of the core: task 3 puts task 1 off by one
        Script t = pair(sentence, 2).made("task 5 1");
        t.due(plain(0, 2, 0), 0).due(plain(0, 3, 0), 1).due(plain(0, 4, 0), 0);
        t.due(plain(0, 2, 1), 0).due(plain(0, 3, 1), 1).due(plain(0, 4, 1), 0);
    }

    private static void takenBeforeItsFirstTick() {
        Script s = pair("before the first one with a resource it TAKES it,", 2);
        // at 1 task 2 comes first, and task 1 has not taken it; at 2 it has
        s.due(plain(0, 1), 0).due(plain(0, 2), 1);
        // a task between, which does not use it, is kept out by the ceiling from then on
        s.made("task 5 1").due(plain(0, ALWAYS_LATE, 1), 0).due(plain(0, ALWAYS_LATE, 2), 1);
        s.due(plain(0, ALWAYS_LATE, 3), 0);
    }

    private static void givenBackBehindItsLastTick() {
        String sentence = "behind the last one it GIVES it BACK,";
        Script s = pair(sentence, 3).made("resource", "uses 1 2 3", "uses 2 2 1");
        // kept any longer, the second resource would be a second one at 2 and 3
        dueByStart(s, 0, 0, 1, 1, 0, 0, 1, 1);
        // task 2 has its first tick at once at 3, so it has its own resource at 6 and 7, when task 3 comes
        Script t = Script.of(sentence).made("task 3 1", "task 9 1", "task 15 1", "resource", "resource");
        t.made("uses 1 1 2", "uses 2 1 1", "uses 2 2 2", "uses 3 2 1");
        t.due(plain(0, 3, 7), 1).due(plain(0, 3, 6), 0).due(plain(0, 4, 7), 0);
    }

    private static void endsBehindItsLastTick() {
        String sentence = "behind the last one of all it ENDS.";
        // task 3 without uses has one tick: started with task 1 it puts it off by one
        Script s = pair(sentence, 2).made("task 20 1");
        s.due(plain(0, 2, 0), 0).due(plain(0, 3, 0), 1).due(plain(0, 4, 0), 0);
        // task 2 has ended when task 1 has its resource
        s.due(plain(0, 0, 7), 0).due(plain(0, 1, 7), 0).due(plain(1, 0, 7), 0);
        // task 2 without uses has ended behind tick 0, so task 1 has its first tick at 1
        Script t = Script.of(sentence).made("task 3 1", "task 9 1", "task 15 1", "resource");
        t.made("uses 1 1 2", "uses 3 1 1");
        t.due(plain(1, 0, 3), 1).due(plain(1, 0, 2), 0).due(plain(1, 0, 4), 0);
        t.due(plain(0, 0, 3), 1).due(plain(0, 0, 2), 0);
    }

    private static void noCoreSpins() {
        Script s = pair("No CORE SPINS.", 3);
        s.made("lock 2 5", "lock 1 5", "lock 3 5").due("lock 1 1", -3).due("lock 3 1", -3);
        dueByStart(s, 0, 0, 1, 1, 0, 0, 0, 0);
        s.due("lock 1 1", -3).due("lock 3 1", -3).due("lock 2 -5", 1).due("lock 1 -5", 1).due("lock 3 -5", 1);
    }

    private static void emptyAndSmallSets() {
        Script s = Script.of("0 without tasks.");
        long[] phases = {0, 1, 7, 8, -1, Long.MIN_VALUE, Long.MAX_VALUE};
        s.dueForEach("plain ?", 0, phases).made("resource").dueForEach("plain ?", 0, phases);
        s.made("task 5 1").dueForEach("plain ?", 0, phases).made("uses 1 1 1000").dueForEach("plain ?", 0, phases);
    }

    private static void onlyOneOfLessRankDelays() {
        for (int rank = 1; rank <= 20; rank++) {
            Script s = Script.of("had by one of less RANK");
            // resource 1 has the ceiling 20 by task 3, which comes when the others are through
            s.made("task 10 1", "task " + rank + " 1", "task 20 1", "resource", "uses 1 1 2", "uses 3 1 1");
            s.due(plain(0, 2, 7), rank > 10 ? 1 : 0).due(plain(0, 1, 7), 0);
        }
    }

    private static void onlyOneOfTheSameCoreDelays() {
        for (int core = 1; core <= 3; core++) {
            Script s = Script.of("and the same CORE");
            s.made("task 10 2", "task 15 " + core, "task 20 2", "resource", "uses 1 1 2", "uses 3 1 1");
            s.due(plain(0, 2, 7), core == 2 ? 1 : 0);
        }
    }

    private static void onlyOneStartedAndNotEndedIsDelayed() {
        Script s = pair("while it had STARTED and not ENDED:", 3);
        // ended before, started at the same tick, between, and behind
        s.due(plain(3, 0), 0).due(plain(2, 0), 0).due(plain(0, 0), 0).due(plain(0, 2), 1).due(plain(0, 3), 1);
        s.due(plain(0, 4), 0).due(plain(0, 7), 0);
    }

    private static void theGreatestNumberNotTheSum() {
        String sentence = "A TRIAL: for each task, of how many tasks' resources (each counted with each resource) "
                + "there was a TICK with it, had by one of less RANK and the same CORE, while it had STARTED and not "
                + "ENDED: the greatest of these numbers; 0 without tasks.";
        Script s = Script.of(sentence).made("task 3 1", "task 9 1", "task 9 1", "task 3 2", "task 9 2");
        s.made("resource", "resource", "uses 1 1 3", "uses 2 1 1", "uses 4 2 3", "uses 5 2 1");
        // at 2 two ticks of one task with one resource are in the way of two tasks: each counts one
        s.due(plain(0, 2, 2, 0, 7), 1).due(plain(0, 3, 2, 0, 7), 1);
        // both cores at once: each task counts its own
        s.due(plain(0, 2, 2, 0, 2), 1).due(plain(0, 2, 2, 0, 3), 1);
        // the greatest stands with the first task, with the last one, and with none
        s.due(plain(0, 2, 7, 0, 7), 1).due(plain(0, 7, 7, 0, 2), 1).due(plain(0, 7, 7, 0, 7), 0);
        // tick 2 with the first resource keeps task 2 waiting, tick 6 with the second one task 3: each counts one
        Script t = Script.of(sentence).made("task 3 1", "task 9 1", "task 9 1", "task 9 1", "resource", "resource");
        t.made("uses 1 1 2", "uses 4 1 1", "uses 1 2 2", "uses 4 2 1");
        t.due(plain(0, 2, 6, 7), 1).due(plain(0, 2, 7, 7), 1).due(plain(0, 7, 5, 7), 1).due(plain(0, 7, 4, 7), 0);
    }

    /** Eight tasks of the greatest rank have all their ticks between two ticks of task 1 with its resource. */
    private static void delayBehindManyTicks() {
        Script s = Script.of("there are TICKS from 0 on.").made("task 1 1", "task 5 1");
        for (int k = 3; k <= 10; k++) {
            s.made("task 20 1");
        }
        s.made("resource", "uses 1 1 2", "uses 2 1 1");
        for (int r = 2; r <= 8; r++) {
            s.made("resource");
            for (int k = 3; k <= 10; k++) {
                s.made("uses " + k + " " + r + " 3");
            }
        }
        s.due(plain(0, 2, 2, 2, 2, 2, 2, 2, 2, 2), 1).due(plain(0, 3, 2, 2, 2, 2, 2, 2, 2, 2), 1);
        s.due(plain(0, 7, 2, 2, 2, 2, 2, 2, 2, 2), 1).due(plain(0, 2, 1, 1, 1, 1, 1, 1, 1, 1), 0);
    }

    private static void theFullObject() {
        Script s = Script.of("the greatest of these numbers");
        for (int k = 1; k <= 10; k++) {
            s.made("task " + (k == 10 ? 1 : 20) + " 1");
        }
        for (int r = 1; r <= 8; r++) {
            s.made("resource");
            for (int k = 1; k <= 10; k++) {
                s.made("uses " + k + " " + r + " 1000");
            }
        }
        s.due("plain 0", 0).due("plain -1", 0);
        s.due(plain(3, 3, 3, 3, 3, 3, 3, 3, 3, 0), 1).due(plain(1, 1, 1, 1, 1, 1, 1, 1, 1, 0), 0);
        s.due(plain(4, 4, 4, 4, 4, 4, 4, 4, 4, 0), 0).due(plain(6, 7, 7, 7, 7, 7, 7, 7, 7, 0), 1);
        s.due(plain(7, 7, 7, 7, 7, 7, 7, 7, 2, 0), 1).due(plain(7, 7, 7, 7, 7, 7, 7, 7, 7, 4), 1);
        s.due(plain(7, 7, 7, 7, 7, 7, 7, 7, 7, 6), 0);
    }
}
