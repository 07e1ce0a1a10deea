/** The edges of promises 6 to 8, and of the terms on states, ranks now and the kinds of a step. */
final class StepEdges {
    private static final long LEAST = Integer.MIN_VALUE;
    private static final long MOST = Integer.MAX_VALUE;
    private static final long LAST_TIME = 1000000000L;

    private StepEdges() {
    }

    static void check() {
        threeStates();
        rankNow();
        rankNowWithAllHeld();
        theGreatestRankNowRuns();
        noneRunsWhileTheCoreSpins();
        readyTheLongest();
        holdingDoesNotCount();
        start();
        event();
        startAndEventTellWhoRuns();
        notRunning();
        take();
        takeAllEight();
        giveBack();
        giveBackInEveryOrder();
        end();
        endWithAllHeld();
        waiting();
        unknownNumbers();
        kinds();
        times();
        theLatestTime();
        ranksAsked();
        holdersAsked();
    }

    /**
     * Tasks 1 to 4 of core 1 with the ranks 3, 7, 5, 3 and task 5 of core 2 with the rank 4. Resource 1 has the
     * ceiling 7 (tasks 1 and 2), 2 the ceiling 5 (1 and 3), 3 the ceiling 3 (1), 4 none.
     */
    private static Script five(String sentence) {
        return Script.of(sentence).made("task 3 1", "task 7 1", "task 5 1", "task 3 1", "task 4 2",
                "resource", "resource", "resource", "resource",
                "uses 1 1 10", "uses 2 1 10", "uses 1 2 10", "uses 3 2 10", "uses 1 3 10");
    }

    private static void threeStates() {
        Script s = five("A task SLEEPS, is READY, or WAITS (for an event).");
        for (int round = 0; round < 2; round++) {
            s.due("EVENT 1 0", -3).due("WAIT 1 0", -3).due("END 1 0", -3);
            s.due("START 1 0", 1).due("START 1 0", -3);
            s.due("WAIT 1 0", 0).due("WAIT 1 0", -3).due("END 1 0", -3).due("START 1 0", -3);
            s.due("EVENT 1 0", 1).due("START 1 0", -3).due("END 1 0", 1);
        }
    }

    private static void rankNow() {
        Script s = five("Its RANK NOW is its RANK, or the greatest CEILING of what it HOLDS, if that is more.");
        s.due("rank 1", 3).made("START 1 0").due("rank 1", 3);
        s.made("TAKE 1 3 0").due("rank 1", 3);
        s.made("TAKE 1 2 0").due("rank 1", 5);
        s.made("TAKE 1 1 0").due("rank 1", 7);
        s.made("GIVE 1 1 0").due("rank 1", 5);
        s.made("GIVE 1 2 0").due("rank 1", 3);
        s.made("GIVE 1 3 0").due("rank 1", 3);
        // the greatest first: the later ones add nothing, and giving them back takes nothing away
        s.made("TAKE 1 1 0").due("rank 1", 7);
        s.made("TAKE 1 2 0").due("rank 1", 7);
        s.made("TAKE 1 3 0").due("rank 1", 7);
        s.made("GIVE 1 3 0").due("rank 1", 7);
        s.made("GIVE 1 2 0").due("rank 1", 7);
        s.made("GIVE 1 1 0").due("rank 1", 3);
        s.due("rank 2", 7).due("rank 3", 5).due("rank 4", 3);
        // a user more raises what is held later on
        s.made("END 1 0", "task 20 1", "resource").due("uses 6 3 1", 1);
        s.made("START 1 0", "TAKE 1 3 0").due("rank 1", 20).due("END 1 0", -14).due("rank 1", 3);
    }

    private static void rankNowWithAllHeld() {
        Script s = Script.of("Its RANK NOW is its RANK, or the greatest CEILING of what it HOLDS, if that is more.");
        s.made("task 1 1");
        for (int r = 1; r <= 8; r++) {
            s.made("task " + (r + 5) + " 1", "resource", "uses 1 " + r + " 1", "uses " + (r + 1) + " " + r + " 1");
        }
        s.made("START 1 0");
        for (int r = 1; r <= 8; r++) {
            s.due("TAKE 1 " + r + " 0", 1).due("rank 1", r + 5);
        }
        for (int r = 8; r >= 1; r--) {
            s.due("GIVE 1 " + r + " 0", 1).due("rank 1", r == 1 ? 1 : r + 4);
        }
    }

    private static void theGreatestRankNowRuns() {
        // resource 2 raises task 1 from 3 to 5; another task comes with a rank just below, at, and just above that
        int[][] cases = {{4, 0}, {5, 0}, {6, 1}};
        for (int[] c : cases) {
            Script s = five("On a CORE that does not SPIN that READY task RUNS whose RANK NOW is the greatest");
            s.made("task " + c[0] + " 1", "START 1 0", "TAKE 1 2 0");
            s.due("START 6 0", c[1]).due("END 6 0", c[1]);
            s.due("GIVE 1 2 0", 1);
            s.due("END 6 0", c[1] == 1 ? -3 : 1).due("END 1 0", 1);
        }
        Script t = five("On a CORE that does not SPIN that READY task RUNS whose RANK NOW is the greatest");
        t.made("START 4 0", "START 3 0", "START 2 0", "START 5 0");
        t.due("END 4 0", 0).due("END 3 0", 0).due("END 2 0", 1);
        t.due("END 4 0", 0).due("END 3 0", 1).due("END 4 0", 1).due("END 5 0", 1);
    }

    private static void noneRunsWhileTheCoreSpins() {
        Script s = five("On a CORE that does not SPIN that READY task RUNS");
        s.made("START 1 0", "EVENT 1 0", "lock 2 4").due("lock 1 4", 0);
        s.due("TAKE 1 1 0", 0).due("GIVE 1 1 0", 0).due("WAIT 1 0", 0).due("END 1 0", 0).due("EVENT 1 0", 0);
        s.due("START 2 0", 0).due("END 2 0", 0).due("END 3 0", -3).due("START 5 0", 1);
        s.due("holder 1", 0).due("lock 2 -4", 1);
        s.due("END 1 0", 0).due("END 2 0", 1).due("WAIT 1 0", 1).due("WAIT 1 0", 0);
        // a core that holds a lock, and one that others spin for, does not spin itself
        s.due("lock 2 4", 0).due("EVENT 1 0", 1).due("END 5 0", 0).due("lock 1 -4", 1).due("END 5 0", 1);
    }

    private static void readyTheLongest() {
        String sentence = "of those with the same one the one that is READY the longest";
        int[][] orders = {{1, 2, 3}, {1, 3, 2}, {2, 1, 3}, {2, 3, 1}, {3, 1, 2}, {3, 2, 1}};
        for (int[] o : orders) {
            Script s = Script.of(sentence).made("task 9 2", "task 9 2", "task 9 2");
            s.due("START " + o[0] + " 0", 1).due("START " + o[1] + " 0", 0).due("START " + o[2] + " 7", 0);
            // one that ended and one that waited are ready anew, behind the others
            s.due("END " + o[0] + " 7", 1).due("START " + o[0] + " 7", 0);
            s.due("END " + o[2] + " 7", 0).due("WAIT " + o[1] + " 7", 0).due("EVENT " + o[1] + " 7", 0);
            s.due("END " + o[0] + " 7", 0).due("END " + o[1] + " 7", 0).due("END " + o[2] + " 8", 1);
            s.due("END " + o[1] + " 8", 0).due("END " + o[0] + " 8", 1).due("END " + o[1] + " 8", 1);
        }
        Script t = Script.of(sentence).made("task 9 2", "task 9 2", "START 2 0", "START 1 0");
        // a kept event, and a WAIT that it answers, leave the place as it is
        t.due("EVENT 2 0", 1).due("EVENT 1 0", 0).due("WAIT 2 0", 1).due("END 1 0", 0).due("END 2 0", 1);
    }

    private static void holdingDoesNotCount() {
        Script s = five("(HOLDING and giving back do not count for that)");
        s.made("START 1 0", "START 4 1").due("TAKE 1 3 2", 1).due("END 4 2", 0);
        s.due("GIVE 1 3 3", 1).due("END 4 3", 0);
        // raised above the others, and back among them
        s.due("TAKE 1 1 4", 1).due("START 2 4", 0).due("GIVE 1 1 5", 1).due("END 1 5", 0).due("END 2 5", 1);
        s.due("END 4 6", 0).due("END 1 6", 1).due("END 4 6", 1);
        // task 3 is ready later than task 1, which has risen to its rank
        s.made("START 1 7", "TAKE 1 2 7").due("START 3 8", 0).due("END 3 8", 0).due("GIVE 1 2 9", 1).due("END 3 9", 1);
    }

    private static void start() {
        Script s = five("0 START: it must SLEEP, or -3; it is READY.");
        s.due("START 1 0", 1).due("START 1 0", -3);
        s.due("START 2 0", 1).due("START 1 0", -3).due("WAIT 2 0", 0).due("START 2 0", -3);
        s.due("END 1 0", 1).due("START 1 0", 1).due("TAKE 1 1 0", 1).due("START 1 0", -3);
        s.due("END 1 0", -14).due("START 1 0", 1).due("END 1 0", 1);
        s.due("EVENT 2 0", 1).due("END 2 0", 1).due("START 2 0", 1);
    }

    private static void event() {
        Script s = five("5 EVENT: if it SLEEPS: -3; if it WAITS, it is READY, otherwise the event is kept (once).");
        s.due("EVENT 1 0", -3).due("START 1 0", 1).due("WAIT 1 0", 0);
        s.due("EVENT 1 0", 1).due("WAIT 1 0", 0).due("EVENT 1 0", 1);
        // kept once, however often it comes
        s.due("EVENT 1 0", 1).due("EVENT 1 0", 1).due("EVENT 1 0", 1).due("WAIT 1 0", 1).due("WAIT 1 0", 0);
        s.due("EVENT 1 0", 1).due("EVENT 1 0", 1).due("WAIT 1 0", 1).due("EVENT 1 0", 1).due("WAIT 1 0", 1);
        s.due("WAIT 1 0", 0).due("EVENT 1 0", 1);
        // it is kept for one that is ready and does not run, and for no other one
        s.due("START 2 0", 1).due("EVENT 1 0", 0).due("WAIT 2 0", 0).due("WAIT 1 0", 1).due("WAIT 1 0", 0);
        s.due("EVENT 2 0", 1).due("END 2 0", 1).due("EVENT 2 0", -3);
    }

    private static void startAndEventTellWhoRuns() {
        Script s = five("Both answer 1 if it RUNS then, otherwise 0.");
        s.due("START 3 0", 1).due("START 1 0", 0).due("START 2 0", 1).due("START 5 0", 1).due("START 4 0", 0);
        s.due("EVENT 1 0", 0).due("EVENT 3 0", 0).due("EVENT 2 0", 1).due("EVENT 5 0", 1);
        s.due("WAIT 2 0", 1).due("WAIT 2 0", 0).due("WAIT 3 0", 1).due("WAIT 3 0", 0).due("WAIT 1 0", 1);
        s.due("WAIT 1 0", 0).due("EVENT 1 0", 0).due("EVENT 4 0", 1).due("EVENT 3 0", 1).due("EVENT 2 0", 1);
        // on a core that spins neither of them runs
        s.made("WAIT 2 0", "lock 3 1", "lock 1 1").due("EVENT 2 0", 0).due("EVENT 3 0", 0);
        s.made("task 20 1").due("START 6 0", 0);
    }

    private static void notRunning() {
        Script s = five("All others answer 0 if it does not RUN (-3 if it SLEEPS or WAITS), otherwise:");
        s.due("TAKE 1 1 0", -3).due("GIVE 1 1 0", -3).due("END 1 0", -3).due("WAIT 1 0", -3);
        s.made("START 1 0", "TAKE 1 3 0", "START 2 0");
        // 0 goes before -11, -12, -13, -14 and -15
        s.due("TAKE 1 4 0", 0).due("TAKE 1 3 0", 0).due("GIVE 1 1 0", 0).due("END 1 0", 0).due("WAIT 1 0", 0);
        s.due("TAKE 1 1 0", 0).due("GIVE 1 3 0", 0).due("holder 1", 0).due("holder 3", 1);
        s.due("WAIT 2 0", 0);
        s.due("TAKE 2 1 0", -3).due("TAKE 2 4 0", -3).due("GIVE 2 1 0", -3).due("END 2 0", -3).due("WAIT 2 0", -3);
        s.due("TAKE 1 4 0", -11).due("TAKE 1 3 0", -12).due("GIVE 1 1 0", -13).due("WAIT 1 0", -15);
        s.due("END 1 0", -14);
    }

    private static void take() {
        Script s = five("1 TAKE a resource: -11 if it does not USE it, -12 if it HOLDS it, otherwise 1: it HOLDS it.");
        s.made("START 1 0").due("TAKE 1 4 0", -11).due("holder 4", 0);
        s.due("TAKE 1 1 0", 1).due("holder 1", 1).due("TAKE 1 1 0", -12).due("holder 1", 1);
        s.due("TAKE 1 2 0", 1).due("TAKE 1 1 0", -12).due("TAKE 1 2 0", -12).due("TAKE 1 4 0", -11);
        s.due("GIVE 1 2 0", 1).due("TAKE 1 2 0", 1).due("END 1 0", -14);
        // what others of its core, or of another core, use is not what it uses
        s.made("START 4 0").due("TAKE 4 1 0", -11).due("TAKE 4 3 0", -11).made("START 3 0").due("TAKE 3 1 0", -11);
        s.due("TAKE 3 2 0", 1).made("START 5 0").due("TAKE 5 2 0", -11).due("holder 2", 3);
        s.made("resource").due("TAKE 3 5 0", -11);
    }

    private static void takeAllEight() {
        Script s = allEight("otherwise 1: it HOLDS it.");
        for (int r = 8; r >= 1; r--) {
            s.due("holder " + r, 0).due("TAKE 1 " + r + " 0", 1).due("holder " + r, 1);
        }
        for (int r = 1; r <= 8; r++) {
            s.due("TAKE 1 " + r + " 0", -12);
        }
    }

    /** One task that runs and uses all eight resources. */
    private static Script allEight(String sentence) {
        Script s = Script.of(sentence).made("task 5 1");
        for (int r = 1; r <= 8; r++) {
            s.made("resource", "uses 1 " + r + " 1");
        }
        return s.made("START 1 0");
    }

    private static void giveBack() {
        Script s = five("2 GIVE BACK: -13 if it is not the one that it took last (of those that it HOLDS), otherwise "
                + "1.");
        s.made("START 1 0").due("GIVE 1 1 0", -13).due("GIVE 1 4 0", -13);
        s.made("TAKE 1 3 0", "TAKE 1 1 0", "TAKE 1 2 0");
        s.due("GIVE 1 3 0", -13).due("GIVE 1 1 0", -13).due("GIVE 1 4 0", -13).due("GIVE 1 2 0", 1);
        s.due("GIVE 1 2 0", -13).due("GIVE 1 3 0", -13).due("holder 2", 0).due("GIVE 1 1 0", 1);
        // what was taken last of all is back: what counts is the last of those that it holds
        s.due("TAKE 1 2 0", 1).due("GIVE 1 3 0", -13).due("GIVE 1 2 0", 1).due("GIVE 1 3 0", 1);
        s.due("GIVE 1 3 0", -13).due("GIVE 1 1 0", -13);
        // another task's resource is not its own
        s.made("TAKE 1 2 0", "START 2 0", "TAKE 2 1 0").due("GIVE 2 2 0", -13).due("GIVE 2 1 0", 1);
        s.due("holder 2", 1).due("END 2 0", 1).due("GIVE 1 1 0", -13).due("GIVE 1 2 0", 1);
    }

    private static void giveBackInEveryOrder() {
        String sentence = "-13 if it is not the one that it took last (of those that it HOLDS)";
        int[][] orders = {{1, 2, 3}, {1, 3, 2}, {2, 1, 3}, {2, 3, 1}, {3, 1, 2}, {3, 2, 1}};
        for (int[] o : orders) {
            Script s = five(sentence).made("START 1 0");
            for (int r : o) {
                s.due("TAKE 1 " + r + " 0", 1);
            }
            for (int last = 2; last >= 0; last--) {
                for (int k = 0; k < 3; k++) {
                    if (k != last) {
                        s.due("GIVE 1 " + o[k] + " 0", -13);
                    }
                }
                s.due("GIVE 1 " + o[last] + " 0", 1);
            }
            s.due("END 1 0", 1);
        }
        Script all = allEight(sentence);
        for (int k = 1; k <= 8; k++) {
            all.made("TAKE 1 " + (k * 3 % 8 + 1) + " 0");
        }
        for (int k = 8; k >= 1; k--) {
            all.due("GIVE 1 " + ((k + 1) * 3 % 8 + 1) + " 0", -13).due("GIVE 1 " + (k * 3 % 8 + 1) + " 0", 1);
        }
        all.due("END 1 0", 1);
    }

    private static void end() {
        Script s = five("3 END: it SLEEPS, and an event that was kept is gone; -14 if it HELD something (which is "
                + "given back), otherwise 1.");
        s.made("START 1 0").due("END 1 0", 1).due("END 1 0", -3);
        s.made("START 1 0", "EVENT 1 0").due("END 1 0", 1).made("START 1 0").due("WAIT 1 0", 0).made("EVENT 1 0");
        s.made("TAKE 1 3 0", "EVENT 1 0").due("END 1 0", -14).due("END 1 0", -3).due("holder 3", 0);
        s.made("START 1 0").due("WAIT 1 0", 0).made("EVENT 1 0");
        // held and given back before is not held
        s.made("TAKE 1 3 0", "GIVE 1 3 0").due("END 1 0", 1);
        // the ones behind it go on, and what others hold stays theirs
        s.made("START 1 0", "TAKE 1 2 0", "START 2 0", "TAKE 2 1 0", "START 4 0").due("END 2 0", -14);
        s.due("holder 1", 0).due("holder 2", 1).due("rank 1", 5).due("END 4 0", 0).due("END 1 0", -14);
        s.due("holder 2", 0).due("rank 1", 3).due("END 4 0", 1);
    }

    private static void endWithAllHeld() {
        Script s = allEight("-14 if it HELD something (which is given back)");
        s.made("task 6 1");
        for (int r = 1; r <= 8; r++) {
            s.due("TAKE 1 " + r + " 3", 1);
        }
        s.due("END 1 4", -14);
        for (int r = 1; r <= 8; r++) {
            s.due("holder " + r, 0);
        }
        s.due("START 2 3", -2).due("rank 1", 5).due("START 1 4", 1);
        for (int r = 8; r >= 1; r--) {
            s.due("GIVE 1 " + r + " 4", -13);
        }
        s.due("TAKE 1 4 4", 1).due("GIVE 1 4 4", 1).due("END 1 4", 1);
    }

    private static void waiting() {
        Script s = five("4 WAIT: -15 if it HOLDS something; if an event was kept, that is gone, and the answer is 1, "
                + "otherwise it WAITS, and the answer is 0.");
        s.made("START 1 0", "START 4 0", "TAKE 1 3 0").due("WAIT 1 0", -15).due("END 4 0", 0);
        // -15 leaves the event
        s.made("EVENT 1 0").due("WAIT 1 0", -15).due("GIVE 1 3 0", 1).due("WAIT 1 0", 1).due("END 4 0", 0);
        s.due("WAIT 1 0", 0).due("WAIT 1 0", -3).due("TAKE 4 3 0", -11).due("END 4 0", 1);
        s.due("EVENT 1 0", 1).due("TAKE 1 3 0", 1).due("TAKE 1 1 0", 1).due("WAIT 1 0", -15);
        s.due("GIVE 1 1 0", 1).due("WAIT 1 0", -15).due("GIVE 1 3 0", 1).due("WAIT 1 0", 0);
        s.due("rank 1", 3).due("uses 1 1 10", -3);
    }

    private static void unknownNumbers() {
        Script s = five("A STEP. -1 there is no such task, or (KINDS 1, 2) resource");
        for (int kind = 0; kind <= 5; kind++) {
            s.dueForEach("step ? " + kind + " 1 0", -1, 0, 6, -1, 10, 11, LEAST, MOST);
        }
        s.dueForEach("step 6 ? 1 0", -1, -1, 6, LEAST, MOST);
        s.dueForEach("step 0 1 1 ?", -1, -1, LAST_TIME + 1, Long.MIN_VALUE, Long.MAX_VALUE);
        s.dueForEach("TAKE 1 ? 0", -1, 0, 5, -1, 8, 9, LEAST, MOST);
        s.dueForEach("GIVE 1 ? 0", -1, 0, 5, -1, 8, 9, LEAST, MOST);
        s.dueForEach("TAKE 1 5 ?", -1, -1, LAST_TIME + 1).dueForEach("GIVE 1 0 ?", -1, -1, LAST_TIME + 1);
        // the other kinds don't look at the resource
        s.dueForEach("step 1 3 ? 0", -3, 0, 5, -1, 9, LEAST, MOST);
        s.due("step 1 0 " + MOST + " 0", 1).due("step 1 5 0 0", 1).due("step 1 4 -1 0", 1).due("step 1 4 9 0", 0);
        s.due("step 1 5 " + LEAST + " 0", 1).due("step 1 3 5 0", 1);
        // unknown goes before every state: asleep, not running, running, waiting
        s.made("START 1 0").due("TAKE 1 5 0", -1).due("GIVE 1 5 0", -1).due("TAKE 1 4 0", -11).due("GIVE 1 4 0", -13);
        s.made("START 2 0").due("TAKE 1 5 0", -1).due("WAIT 2 0", 0).due("TAKE 2 5 0", -1).due("GIVE 2 0 0", -1);
        s.made("resource").due("TAKE 1 5 0", -11).due("TAKE 1 6 0", -1).made("task 1 3").due("START 6 0", 1);
    }

    private static void kinds() {
        Script s = five("-2 there is no such KIND");
        s.dueForEach("step 1 ? 1 0", -2, -1, 6, -2, 7, LEAST, MOST);
        // no kind looks at the resource, and none goes before the state
        s.dueForEach("step 1 6 ? 0", -2, 0, 5, -1, 9).made("START 1 0").dueForEach("step 1 ? 1 0", -2, -1, 6);
        s.due("step 1 5 0 0", 1).due("step 1 4 0 0", 1).due("step 1 4 0 0", 0).dueForEach("step 1 ? 1 0", -2, -1, 6);
        s.due("step 1 5 0 0", 1).due("step 1 1 1 0", 1).due("step 1 2 1 0", 1).due("step 1 3 0 0", 1);
        Script t = five("A STEP of a task at a time, by KIND:");
        t.due("step 1 0 0 5", 1).due("step 1 1 1 6", 1).due("step 1 2 1 7", 1).due("step 1 4 0 8", 0);
        t.due("step 1 5 0 9", 1).due("step 1 3 0 10", 1).due("step 1 0 0 9", -2);
    }

    private static void times() {
        Script s = five("or not 0 .. 1000000000.");
        s.dueForEach("START 1 ?", -2, -1, LAST_TIME + 1, Long.MIN_VALUE, Long.MAX_VALUE, LEAST, MOST);
        // cut to an int these would be times
        s.dueForEach("START 1 ?", -2, 1L << 32, (1L << 32) + 5, Long.MIN_VALUE + 5, -(1L << 32) + 5);
        s.due("END 1 0", -3).due("START 1 0", 1).due("EVENT 1 -1", -2).due("EVENT 1 " + LAST_TIME, 1);
        s.due("WAIT 1 " + (LAST_TIME - 1), -2).due("WAIT 1 " + (LAST_TIME + 1), -2).due("WAIT 1 " + LAST_TIME, 1);
        s.due("END 1 " + LAST_TIME, 1).due("START 1 " + LAST_TIME, 1);
    }

    private static void theLatestTime() {
        Script s = five("or t is below the latest STEP's that did not answer below 0 (-14 counts)");
        s.due("START 1 10", 1).due("START 4 9", -2).due("START 4 10", 0).due("EVENT 4 9", -2);
        // an answer of 0 counts
        s.due("END 4 11", 0).due("TAKE 1 1 10", -2).due("TAKE 1 1 11", 1);
        // -1, -2, -3, -11, -12, -13 and -15 do not
        s.due("START 6 90", -1).due("TAKE 1 5 90", -1).due("step 1 6 0 90", -2).due("START 1 90", -3);
        s.due("EVENT 2 90", -3).due("END 2 90", -3).due("TAKE 1 4 90", -11).due("TAKE 1 1 90", -12);
        s.due("GIVE 1 2 90", -13).due("WAIT 1 90", -15).due("START 2 " + (LAST_TIME + 1), -2).due("GIVE 1 1 11", 1);
        s.due("WAIT 1 12", 0).due("START 1 90", -3).due("WAIT 1 90", -3).due("EVENT 1 11", -2).due("EVENT 1 12", 0);
        s.due("END 4 13", 1).due("TAKE 1 1 12", -2).due("TAKE 1 1 13", 1);
        // -14 does, and the time is one for all tasks and cores
        s.due("END 1 20", -14).due("START 5 19", -2).due("START 5 20", 1).due("END 5 21", 1).due("START 1 20", -2);
        s.due("START 1 21", 1);
        // below the latest goes before the state and before the other answers
        s.due("START 1 20", -2).due("TAKE 1 4 20", -2).due("GIVE 1 1 20", -2).due("EVENT 2 20", -2).due("END 2 20", -2);
        s.made("TAKE 1 1 21").due("END 1 20", -2).due("WAIT 1 20", -2).due("TAKE 1 1 20", -2).due("holder 1", 1);
    }

    private static void ranksAsked() {
        Script s = five("A task's RANK NOW. -1 there is none.");
        s.dueForEach("rank ?", -1, 0, 6, -1, 10, 11, LEAST, MOST).due("rank 1", 3).due("rank 5", 4);
        s.made("START 1 0", "TAKE 1 1 0").due("rank 1", 7).due("rank 0", -1).due("rank 6", -1);
        s.made("task 20 1").due("rank 6", 20).due("rank 7", -1);
    }

    private static void holdersAsked() {
        Script s = five("Who HOLDS a resource, 0 nobody. -1 there is none.");
        s.dueForEach("holder ?", -1, 0, 5, -1, 8, 9, LEAST, MOST).dueForEach("holder ?", 0, 1, 2, 3, 4);
        s.made("START 1 0", "TAKE 1 2 0", "START 2 0", "TAKE 2 1 0").due("holder 1", 2).due("holder 2", 1);
        s.due("holder 3", 0).due("holder 4", 0).due("holder 5", -1).made("GIVE 2 1 0").due("holder 1", 0);
        s.due("holder 2", 1).made("resource").due("holder 5", 0).due("holder 6", -1);
    }
}
