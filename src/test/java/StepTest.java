/** Promises 6 to 8: steps, ranks now and holders. */
public final class StepTest {
    private static final int START = 0;
    private static final int TAKE = 1;
    private static final int GIVE = 2;
    private static final int END = 3;
    private static final int WAIT = 4;
    private static final int EVENT = 5;

    public static void main(String[] args) {
        refusalsOfNumbersAndRanges();
        refusalsInTheirOrder();
        timeGoesOnWithAnswersNotBelowZero();
        startAndPreemption();
        readyTheLongestRuns();
        holdingDoesNotCountForReadiness();
        takeAndItsCodes();
        giveBackInOrder();
        endGivesAllBack();
        waitAndEvents();
        endForgetsTheEvent();
        ranksRiseAndFall();
        holders();
        coresAreApart();
        Check.finish();
    }

    /** Tasks 1 to 4 of core 1 with ranks 3, 7, 5, 3; task 5 of core 2 with rank 4; resources 1 to 4, 4 unused. */
    private static CeilingRows fiveTasks() {
        CeilingRows x = new CeilingRows();
        x.task(3, 1);
        x.task(7, 1);
        x.task(5, 1);
        x.task(3, 1);
        x.task(4, 2);
        for (int k = 0; k < 4; k++) {
            x.resource();
        }
        x.uses(1, 1, 10);
        x.uses(2, 1, 10);
        x.uses(1, 2, 10);
        x.uses(3, 2, 10);
        x.uses(1, 3, 10);
        return x;
    }

    private static void refusalsOfNumbersAndRanges() {
        CeilingRows x = fiveTasks();
        int[] unknown = {0, -1, 6, 11, Integer.MIN_VALUE, Integer.MAX_VALUE};
        for (int u : unknown) {
            Check.due("step(" + u + ", START)", x.step(u, START, 0, 0), -1);
            Check.due("step of an unknown task and kind", x.step(u, 9, 0, -1), -1);
            Check.due("TAKE " + u, x.step(1, TAKE, u, 0), -1);
            Check.due("GIVE " + u, x.step(1, GIVE, u, 0), -1);
        }
        int[] kinds = {-1, 6, Integer.MIN_VALUE, Integer.MAX_VALUE};
        for (int kind : kinds) {
            Check.due("kind " + kind, x.step(1, kind, 0, 0), -2);
        }
        long[] times = {-1, 1000000001L, Long.MIN_VALUE, Long.MAX_VALUE, 1L << 32};
        for (long t : times) {
            Check.due("t " + t, x.step(1, START, 0, t), -2);
        }
        Check.due("the task sleeps still", x.step(1, WAIT, 0, 0), -3);
        Check.due("a resource does not matter to START", x.step(1, START, -5, 0), 1);
        Check.due("nor to EVENT", x.step(1, EVENT, 99, 0), 1);
        Check.due("nor to WAIT", x.step(1, WAIT, 99, 0), 1);
        Check.due("nor to END, at the latest time", x.step(1, END, 99, 1000000000L), 1);
    }

    private static void refusalsInTheirOrder() {
        CeilingRows x = fiveTasks();
        Check.due("an unknown resource before the time", x.step(1, TAKE, 5, -1), -1);
        Check.due("the time before the state", x.step(1, TAKE, 1, -1), -2);
        Check.due("the kind before the state", x.step(1, 6, 1, 0), -2);
        Check.due("TAKE asleep", x.step(1, TAKE, 4, 0), -3);
        Check.due("GIVE asleep", x.step(1, GIVE, 4, 0), -3);
        Check.due("END asleep", x.step(1, END, 0, 0), -3);
        Check.due("WAIT asleep", x.step(1, WAIT, 0, 0), -3);
        Check.due("EVENT asleep", x.step(1, EVENT, 0, 0), -3);
    }

    private static void timeGoesOnWithAnswersNotBelowZero() {
        CeilingRows x = fiveTasks();
        Check.due("START at 10", x.step(1, START, 0, 10), 1);
        Check.due("START at 9", x.step(2, START, 0, 9), -2);
        Check.due("-3 at 50", x.step(1, START, 0, 50), -3);
        Check.due("-11 at 50", x.step(1, TAKE, 4, 50), -11);
        Check.due("-13 at 50", x.step(1, GIVE, 1, 50), -13);
        Check.due("TAKE at 10 still", x.step(1, TAKE, 1, 10), 1);
        Check.due("-12 at 50", x.step(1, TAKE, 1, 50), -12);
        Check.due("-15 at 50", x.step(1, WAIT, 0, 50), -15);
        Check.due("START of another at 11, which does not run", x.step(3, START, 0, 11), 0);
        Check.due("0 counts: 10 is too early", x.step(1, GIVE, 1, 10), -2);
        Check.due("a step of one that does not run at 12", x.step(3, END, 0, 12), 0);
        Check.due("0 counts: 11 is too early", x.step(1, GIVE, 1, 11), -2);
        Check.due("END that held at 20", x.step(1, END, 0, 20), -14);
        Check.due("-14 counts: 19 is too early", x.step(3, END, 0, 19), -2);
        Check.due("-14 counts: 20 is not", x.step(3, END, 0, 20), 1);
    }

    private static void startAndPreemption() {
        CeilingRows x = fiveTasks();
        Check.due("START 1", x.step(1, START, 0, 0), 1);
        Check.due("START 1 again", x.step(1, START, 0, 0), -3);
        Check.due("START 3, of more rank", x.step(3, START, 0, 0), 1);
        Check.due("1 does not run", x.step(1, TAKE, 1, 0), 0);
        Check.due("1 does not run: not even a code", x.step(1, TAKE, 4, 0), 0);
        Check.due("1 does not hold", x.holder(1), 0);
        Check.due("START 2, of most rank", x.step(2, START, 0, 0), 1);
        Check.due("3 does not run", x.step(3, END, 0, 0), 0);
        Check.due("2 ends", x.step(2, END, 0, 0), 1);
        Check.due("3 ends", x.step(3, END, 0, 0), 1);
        Check.due("1 ends", x.step(1, END, 0, 0), 1);
        Check.due("1 starts again", x.step(1, START, 0, 0), 1);
    }

    private static void readyTheLongestRuns() {
        CeilingRows x = fiveTasks();
        Check.due("START 4", x.step(4, START, 0, 0), 1);
        Check.due("START 1, of the same rank", x.step(1, START, 0, 0), 0);
        Check.due("1 does not run", x.step(1, WAIT, 0, 1), 0);
        Check.due("4 waits", x.step(4, WAIT, 0, 2), 0);
        Check.due("1 runs", x.step(1, TAKE, 3, 2), 1);
        Check.due("4 is ready anew, behind 1", x.step(4, EVENT, 0, 3), 0);
        Check.due("1 gives back", x.step(1, GIVE, 3, 3), 1);
        Check.due("1 still goes first", x.step(4, END, 0, 4), 0);
        Check.due("an event that is kept", x.step(1, EVENT, 0, 4), 1);
        Check.due("a WAIT that does not wait keeps the place", x.step(1, WAIT, 0, 4), 1);
        Check.due("1 still goes first then", x.step(4, END, 0, 5), 0);
        Check.due("1 ends", x.step(1, END, 0, 5), 1);
        Check.due("1 starts anew, behind 4", x.step(1, START, 0, 5), 0);
        Check.due("4 ends", x.step(4, END, 0, 6), 1);
    }

    private static void holdingDoesNotCountForReadiness() {
        CeilingRows x = fiveTasks();
        x.step(1, START, 0, 0);
        x.step(4, START, 0, 0);
        Check.due("1 takes, and rises", x.step(1, TAKE, 1, 0), 1);
        Check.due("2 has the rank of the ceiling, and was ready later", x.step(2, START, 0, 0), 0);
        Check.due("1 gives back, and falls", x.step(1, GIVE, 1, 0), 1);
        Check.due("2 runs", x.step(2, END, 0, 0), 1);
        Check.due("1 runs before 4", x.step(4, END, 0, 0), 0);
        Check.due("1 takes what leaves its rank", x.step(1, TAKE, 3, 0), 1);
        Check.due("1 runs before 4 while it holds", x.step(4, END, 0, 0), 0);
        Check.due("1 ends", x.step(1, END, 0, 0), -14);
        Check.due("4 runs", x.step(4, END, 0, 0), 1);
    }

    private static void takeAndItsCodes() {
        CeilingRows x = fiveTasks();
        x.step(1, START, 0, 0);
        Check.due("TAKE of one that nobody uses", x.step(1, TAKE, 4, 0), -11);
        Check.due("TAKE", x.step(1, TAKE, 1, 0), 1);
        Check.due("TAKE again", x.step(1, TAKE, 1, 0), -12);
        Check.due("TAKE another", x.step(1, TAKE, 3, 0), 1);
        Check.due("TAKE the first again", x.step(1, TAKE, 1, 0), -12);
        x.step(1, GIVE, 3, 0);
        x.step(1, GIVE, 1, 0);
        Check.due("TAKE after giving back", x.step(1, TAKE, 1, 0), 1);
        x.step(1, END, 0, 0);
        x.step(3, START, 0, 0);
        Check.due("TAKE of one that another uses", x.step(3, TAKE, 1, 0), -11);
        Check.due("nobody holds it", x.holder(1), 0);
    }

    private static void giveBackInOrder() {
        CeilingRows x = fiveTasks();
        x.step(1, START, 0, 0);
        Check.due("GIVE of nothing", x.step(1, GIVE, 1, 0), -13);
        x.step(1, TAKE, 3, 0);
        x.step(1, TAKE, 1, 0);
        x.step(1, TAKE, 2, 0);
        Check.due("GIVE the first", x.step(1, GIVE, 3, 0), -13);
        Check.due("GIVE the second", x.step(1, GIVE, 1, 0), -13);
        Check.due("GIVE one not used", x.step(1, GIVE, 4, 0), -13);
        Check.due("GIVE the third", x.step(1, GIVE, 2, 0), 1);
        Check.due("GIVE the third again", x.step(1, GIVE, 2, 0), -13);
        Check.due("TAKE the third anew", x.step(1, TAKE, 2, 0), 1);
        Check.due("GIVE the second too early", x.step(1, GIVE, 1, 0), -13);
        Check.due("GIVE the third", x.step(1, GIVE, 2, 0), 1);
        Check.due("GIVE the second", x.step(1, GIVE, 1, 0), 1);
        Check.due("GIVE the first", x.step(1, GIVE, 3, 0), 1);
        Check.due("GIVE the first again", x.step(1, GIVE, 3, 0), -13);
    }

    private static void endGivesAllBack() {
        CeilingRows x = fiveTasks();
        x.step(1, START, 0, 0);
        x.step(1, TAKE, 1, 0);
        x.step(1, TAKE, 2, 0);
        x.step(1, TAKE, 3, 0);
        x.step(2, START, 0, 0);
        Check.due("END that held three", x.step(1, END, 0, 0), -14);
        for (int k = 1; k <= 4; k++) {
            Check.due("holder(" + k + ") afterwards", x.holder(k), 0);
        }
        Check.due("its rank afterwards", x.rank(1), 3);
        Check.due("it sleeps", x.step(1, END, 0, 0), -3);
        Check.due("2 runs and takes", x.step(2, TAKE, 1, 0), 1);
        Check.due("2 gives back", x.step(2, GIVE, 1, 0), 1);
        Check.due("2 ends without", x.step(2, END, 0, 0), 1);
        x.step(1, START, 0, 0);
        Check.due("it starts with nothing to give back", x.step(1, GIVE, 3, 0), -13);
        Check.due("it ends without", x.step(1, END, 0, 0), 1);
    }

    private static void waitAndEvents() {
        CeilingRows x = fiveTasks();
        x.step(1, START, 0, 0);
        Check.due("WAIT", x.step(1, WAIT, 0, 0), 0);
        Check.due("START of one that waits", x.step(1, START, 0, 0), -3);
        Check.due("TAKE of one that waits", x.step(1, TAKE, 1, 0), -3);
        Check.due("GIVE of one that waits", x.step(1, GIVE, 1, 0), -3);
        Check.due("END of one that waits", x.step(1, END, 0, 0), -3);
        Check.due("WAIT of one that waits", x.step(1, WAIT, 0, 0), -3);
        Check.due("EVENT", x.step(1, EVENT, 0, 0), 1);
        Check.due("the event that woke it is not kept", x.step(1, WAIT, 0, 0), 0);
        x.step(2, START, 0, 0);
        Check.due("EVENT under another", x.step(1, EVENT, 0, 0), 0);
        Check.due("EVENT that is kept, under another", x.step(1, EVENT, 0, 0), 0);
        Check.due("EVENT for the one that runs", x.step(2, EVENT, 0, 0), 1);
        Check.due("EVENT twice is kept once", x.step(2, EVENT, 0, 0), 1);
        Check.due("WAIT with an event", x.step(2, WAIT, 0, 0), 1);
        Check.due("WAIT without", x.step(2, WAIT, 0, 0), 0);
        Check.due("1 runs", x.step(1, TAKE, 3, 0), 1);
        Check.due("WAIT while it holds", x.step(1, WAIT, 0, 0), -15);
        Check.due("GIVE", x.step(1, GIVE, 3, 0), 1);
        Check.due("the event is still kept after -15", x.step(1, WAIT, 0, 0), 1);
        Check.due("now it waits", x.step(1, WAIT, 0, 0), 0);
        Check.due("EVENT of more rank", x.step(2, EVENT, 0, 0), 1);
    }

    private static void endForgetsTheEvent() {
        CeilingRows x = fiveTasks();
        x.step(1, START, 0, 0);
        x.step(1, EVENT, 0, 0);
        Check.due("END with an event kept", x.step(1, END, 0, 0), 1);
        Check.due("EVENT asleep is not kept", x.step(1, EVENT, 0, 0), -3);
        x.step(1, START, 0, 0);
        Check.due("it waits", x.step(1, WAIT, 0, 0), 0);
        x.step(1, EVENT, 0, 0);
        x.step(1, EVENT, 0, 0);
        x.step(1, TAKE, 1, 0);
        Check.due("END with both", x.step(1, END, 0, 0), -14);
        x.step(1, START, 0, 0);
        Check.due("it waits again", x.step(1, WAIT, 0, 0), 0);
    }

    private static void ranksRiseAndFall() {
        CeilingRows x = fiveTasks();
        Check.due("asleep", x.rank(1), 3);
        x.step(1, START, 0, 0);
        Check.due("ready", x.rank(1), 3);
        x.step(1, TAKE, 3, 0);
        Check.due("a ceiling of its own rank", x.rank(1), 3);
        x.step(1, TAKE, 1, 0);
        Check.due("a greater ceiling", x.rank(1), 7);
        x.step(1, TAKE, 2, 0);
        Check.due("a smaller ceiling on top", x.rank(1), 7);
        x.step(1, GIVE, 2, 0);
        Check.due("the smaller one back", x.rank(1), 7);
        x.step(1, GIVE, 1, 0);
        Check.due("the greater one back", x.rank(1), 3);
        x.step(1, TAKE, 2, 0);
        Check.due("the smaller one alone", x.rank(1), 5);
        Check.due("the others do not rise", x.rank(4), 3);
        Check.due("START 3 at the rank of the ceiling", x.step(3, START, 0, 0), 0);
        Check.due("START 2 above the ceiling", x.step(2, START, 0, 0), 1);
        Check.due("2 takes a ceiling of its own rank", x.step(2, TAKE, 1, 0), 1);
        Check.due("rank of 2", x.rank(2), 7);
        int[] unknown = {0, -1, 6, 11, Integer.MIN_VALUE, Integer.MAX_VALUE};
        for (int u : unknown) {
            Check.due("rank(" + u + ")", x.rank(u), -1);
        }
    }

    private static void holders() {
        CeilingRows x = fiveTasks();
        x.step(1, START, 0, 0);
        x.step(1, TAKE, 2, 0);
        x.step(2, START, 0, 0);
        x.step(2, TAKE, 1, 0);
        Check.due("holder(1)", x.holder(1), 2);
        Check.due("holder(2)", x.holder(2), 1);
        Check.due("holder(3)", x.holder(3), 0);
        x.step(2, GIVE, 1, 0);
        Check.due("holder(1) given back", x.holder(1), 0);
        Check.due("holder(2) stays", x.holder(2), 1);
        int[] unknown = {0, -1, 5, 9, Integer.MIN_VALUE, Integer.MAX_VALUE};
        for (int u : unknown) {
            Check.due("holder(" + u + ")", x.holder(u), -1);
        }
    }

    private static void coresAreApart() {
        CeilingRows x = fiveTasks();
        Check.due("START 2 on core 1", x.step(2, START, 0, 0), 1);
        Check.due("START 5 on core 2, of less rank", x.step(5, START, 0, 0), 1);
        Check.due("2 still runs", x.step(2, TAKE, 1, 0), 1);
        Check.due("5 ends", x.step(5, END, 0, 0), 1);
        Check.due("holder(1) stays", x.holder(1), 2);
    }
}
