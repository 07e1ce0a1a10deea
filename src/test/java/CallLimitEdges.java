/** The sentence on 512 calls: up to the last of them every answer is as due. */
final class CallLimitEdges {
    private static final String SENTENCE = "An object is used for at most 512 calls after it has been made; what later "
            + "calls answer is free.";

    private CallLimitEdges() {
    }

    static void check() {
        startsAndEnds();
        waitsAndEvents();
        takesAndGivesBack();
        spinningInTurn();
        refusedCallsBeforeTheLastOnes();
        trialsOfTheFullObject();
    }

    private static void startsAndEnds() {
        Script s = Script.of(SENTENCE).made("task 5 1", "task 5 1");
        for (int t = 0; s.left() >= 4; t++) {
            int first = t % 2 + 1;
            int second = 3 - first;
            s.due("START " + first + " " + t, 1).due("START " + second + " " + t, 0);
            s.due("END " + first + " " + t, 1).due("END " + second + " " + t, 1);
        }
        s.dueToTheLast("END 1 1000000000", -3);
    }

    /** Two tasks of one rank wait in turn, so each is ready behind the other again and again. */
    private static void waitsAndEvents() {
        Script s = Script.of(SENTENCE).made("task 5 1", "task 5 1", "START 1 0", "START 2 0");
        for (int turn = 0; s.left() >= 3; turn++) {
            int first = turn % 2 + 1;
            s.due("WAIT " + first + " 0", 0).due("EVENT " + first + " 0", 0).due("END " + first + " 0", 0);
        }
        s.dueToTheLast("START 1 0", -3);
    }

    private static void takesAndGivesBack() {
        Script s = Script.of(SENTENCE).made("task 5 1", "task 9 1", "resource", "uses 1 1 7", "uses 2 1 7");
        s.made("START 1 0");
        for (int t = 1; s.left() > 2; t++) {
            s.due("TAKE 1 1 " + t, 1).due("GIVE 1 1 " + t, 1);
        }
        s.due("TAKE 1 1 1000000000", 1);
        s.dueToTheLast("rank 1", 9);
    }

    private static void spinningInTurn() {
        Script s = Script.of(SENTENCE).made("lock 1 3", "lock 2 3", "lock 3 3");
        for (int turn = 0; s.left() >= 2; turn++) {
            int holder = turn % 3 + 1;
            s.due("lock " + holder + " -3", 1).due("lock " + holder + " 3", 0);
        }
        s.dueToTheLast("ring", 0);
    }

    private static void refusedCallsBeforeTheLastOnes() {
        Script s = Script.of(SENTENCE);
        while (s.left() > 4) {
            s.due("task 0 1", -2).due("rank 1", -1).due("lock 1 -1", -17).due("START 1 7", -1);
        }
        s.due("task 20 3", 1).due("resource", 1).due("START 1 0", 1);
        s.dueToTheLast("rank 1", 20);
    }

    private static void trialsOfTheFullObject() {
        Script s = Script.of(SENTENCE);
        for (int k = 1; k <= 10; k++) {
            s.made("task " + (k == 10 ? 1 : 20) + " 1");
        }
        for (int r = 1; r <= 8; r++) {
            s.made("resource");
            for (int k = 1; k <= 10; k++) {
                s.made("uses " + k + " " + r + " 3");
            }
        }
        // the nine start at 3, when task 10 has its resource, or at 4, when it has given it back
        while (s.left() > 2) {
            s.due("plain " + 0_333_333_333, 1).due("plain " + 0_444_444_444, 0);
        }
        s.dueToTheLast("plain " + 0_333_333_333, 1);
    }
}
