import java.util.ArrayList;
import java.util.List;

/** The edges of promises 10 and 11, and of the terms on locks. */
final class LockEdges {
    private static final long LEAST = Integer.MIN_VALUE;
    private static final long MOST = Integer.MAX_VALUE;
    private static final int[][] ORDERS = {{1, 2, 3}, {1, 3, 2}, {2, 1, 3}, {2, 3, 1}, {3, 1, 2}, {3, 2, 1}};

    private LockEdges() {
    }

    static void check() {
        eightLocks();
        onlyGreaterOnes();
        spinForAnothers();
        giveBackTheLast();
        theLongestSpinnerHasIt();
        spinnersOfDifferentLocks();
        refusals();
        noRingOfAFew();
        noRingInAnyShortRun();
    }

    private static void eightLocks() {
        for (int core = 1; core <= 3; core++) {
            Script s = Script.of("LOCKS 1 to 8 are held by CORES.");
            int other = core % 3 + 1;
            for (int n = 1; n <= 8; n++) {
                s.due("lock " + core + " " + n, 1);
            }
            s.due("lock " + core + " 9", -2).due("lock " + core + " 0", -2).due("lock " + other + " 1", 0);
            for (int n = 8; n >= 2; n--) {
                s.due("lock " + core + " " + -n, 1).due("lock " + core + " " + -n, -17);
            }
            s.due("lock " + other + " 8", -3).due("lock " + core + " -1", 1).due("lock " + other + " 8", 1);
            s.due("lock " + core + " 1", 0);
        }
    }

    private static void onlyGreaterOnes() {
        for (int held = 1; held <= 8; held++) {
            Script s = Script.of("A CORE takes one: -16 if it is not greater than all that it holds");
            s.due("lock 1 " + held, 1);
            for (int n = 1; n <= held; n++) {
                s.due("lock 1 " + n, -16);
            }
            if (held < 8) {
                s.due("lock 1 " + (held + 1), 1).due("lock 1 " + -(held + 1), 1).due("lock 1 8", 1);
                s.due("lock 1 " + (held + 1), -16).due("lock 1 -8", 1);
            }
            s.due("lock 1 " + held, -16).due("lock 1 " + -held, 1).due("lock 1 " + held, 1);
        }
        Script t = Script.of("A CORE takes one: -16 if it is not greater than all that it holds");
        // greater than the last of several, not only than the first; and it does not spin for what it may not take
        t.made("lock 1 2", "lock 1 6", "lock 2 4", "lock 2 6").due("lock 1 4", -16).due("lock 1 7", 1);
        t.due("lock 1 3", -16).due("lock 1 6", -16).due("lock 3 1", 1);
    }

    private static void spinForAnothers() {
        for (int[] o : ORDERS) {
            Script s = Script.of("if another CORE holds it, the answer is 0, and it SPINS, otherwise 1.");
            s.due("lock " + o[0] + " 3", 1).due("lock " + o[1] + " 2", 1).due("lock " + o[1] + " 3", 0);
            s.due("lock " + o[1] + " 8", -3).due("lock " + o[2] + " 2", 0).due("lock " + o[2] + " 8", -3);
            s.due("lock " + o[0] + " 8", 1).due("lock " + o[0] + " -8", 1).due("lock " + o[0] + " -3", 1);
            s.due("lock " + o[1] + " 8", 1).due("lock " + o[2] + " 8", -3).due("lock " + o[0] + " 3", 0);
        }
    }

    private static void giveBackTheLast() {
        Script s = Script.of("It gives one back: -17 if it is not the one that it took last, otherwise 1");
        for (int n = 1; n <= 8; n++) {
            s.due("lock 1 " + -n, -17);
        }
        s.made("lock 1 1", "lock 1 4", "lock 1 8", "lock 2 6").due("lock 1 -1", -17).due("lock 1 -4", -17);
        s.due("lock 1 -7", -17).due("lock 1 -6", -17).due("lock 2 -8", -17).due("lock 2 -5", -17);
        s.due("lock 1 -8", 1).due("lock 1 -8", -17).due("lock 1 -1", -17).due("lock 1 -4", 1).due("lock 1 -4", -17);
        s.due("lock 3 4", 1).due("lock 1 -4", -17).due("lock 1 -1", 1).due("lock 1 -1", -17).due("lock 2 -6", 1);
        // one that it got by spinning is the one that it took last
        Script t = Script.of("It gives one back: -17 if it is not the one that it took last, otherwise 1");
        t.made("lock 1 5", "lock 2 3", "lock 2 5").due("lock 1 -5", 1).due("lock 2 -3", -17).due("lock 1 -5", -17);
        t.due("lock 2 -5", 1).due("lock 2 -3", 1);
    }

    private static void theLongestSpinnerHasIt() {
        for (int[] o : ORDERS) {
            Script s = Script.of("and the CORE that SPINS for it the longest has it and SPINS no more.");
            String first = "lock " + o[0] + " ";
            String second = "lock " + o[1] + " ";
            String third = "lock " + o[2] + " ";
            s.due(first + 7, 1).due(second + 7, 0).due(third + 7, 0).due(first + -7, 1);
            s.due(third + -7, -3).due(first + -7, -17).due(second + 7, -16).due(second + 8, 1).due(second + -8, 1);
            // the first one spins anew, behind the one that spins already
            s.due(first + 7, 0).due(second + -7, 1).due(first + -7, -3).due(second + -7, -17).due(third + -7, 1);
            s.due(first + -7, 1).due(first + -7, -17).due(second + 7, 1).due(third + 7, 0);
        }
    }

    private static void spinnersOfDifferentLocks() {
        for (int[] o : ORDERS) {
            Script s = Script.of("and the CORE that SPINS for it the longest has it and SPINS no more.");
            String first = "lock " + o[0] + " ";
            String second = "lock " + o[1] + " ";
            String third = "lock " + o[2] + " ";
            // the second one spins longer, but for another lock
            s.made(first + 2, first + 5).due(second + 2, 0).due(third + 5, 0).due(first + -5, 1);
            s.due(second + 8, -3).due(third + 8, 1).due(third + -8, 1).due(third + -5, 1);
            // nobody spins for this one: it is free
            s.made(first + 6).due(first + -6, 1).due(third + 6, 1).due(second + 8, -3);
            s.due(first + -2, 1).due(second + -2, 1).due(second + -2, -17);
        }
    }

    private static void refusals() {
        Script s = Script.of("A CORE takes a lock, or, with minus its number, gives it back. -1 there is no CORE, "
                + "-2 there is no such lock, -3 it SPINS.");
        s.dueForEach("lock ? 1", -1, 0, 4, -1, -3, LEAST, MOST).dueForEach("lock ? -1", -1, 0, 4, -1, LEAST, MOST);
        s.dueForEach("lock 0 ?", -1, 0, 9, -9, LEAST, MOST).dueForEach("lock 4 ?", -1, 0, 9, -9, LEAST, MOST);
        for (int core = 1; core <= 3; core++) {
            s.dueForEach("lock " + core + " ?", -2, 0, 9, -9, 10, -10, LEAST, LEAST + 1, MOST);
        }
        s.due("lock 1 1", 1).due("lock 3 8", 1).due("lock 3 -8", 1).due("lock 2 1", 0);
        s.dueForEach("lock 2 ?", -2, 0, 9, -9, LEAST, MOST);
        // -3 goes before -16 and -17
        s.dueForEach("lock 2 ?", -3, 1, 2, 8, -1, -2, -8).due("lock 1 1", -16).due("lock 1 -2", -17);
        s.due("lock 1 -1", 1).due("lock 2 1", -16).due("lock 2 -1", 1);
    }

    private static void noRingOfAFew() {
        Script s = Script.of("Whether some CORE that SPINS waits, over others that SPIN, for itself.");
        s.due("ring", 0).made("lock 1 1", "lock 2 2", "lock 3 3").due("ring", 0);
        s.made("lock 1 2").due("ring", 0).made("lock 2 3").due("ring", 0);
        // what would close the ring is refused
        s.due("lock 3 1", -16).due("lock 3 2", -16).due("ring", 0).made("lock 3 -3").due("ring", 0);
        s.made("lock 3 1").due("ring", 0);
    }

    /** A core takes locks in rising order alone, so no ring comes about: all runs of three locks show it. */
    private static void noRingInAnyShortRun() {
        List<String> calls = new ArrayList<>();
        for (int core = 1; core <= 3; core++) {
            for (int n = 1; n <= 3; n++) {
                calls.add("lock " + core + " " + n);
                calls.add("lock " + core + " " + -n);
            }
        }
        extend(calls, new ArrayList<>(), 6);
    }

    private static void extend(List<String> calls, List<String> behind, int more) {
        for (String call : calls) {
            Script s = Script.of("waits, over others that SPIN, for itself.").made(behind.toArray(new String[0]));
            if (s.answer(call) >= 0) {
                s.due("ring", 0);
                if (more > 1) {
                    behind.add(call);
                    extend(calls, behind, more - 1);
                    behind.remove(behind.size() - 1);
                }
            }
        }
    }
}
