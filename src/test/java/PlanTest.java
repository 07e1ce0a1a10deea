/** Promises 1 to 5, 9 and 12: what tasks and resources there are, and who may keep whom waiting. */
public final class PlanTest {
    public static void main(String[] args) {
        newObjectIsEmpty();
        tasksAreNumbered();
        taskRefusals();
        resourcesAreNumbered();
        usesAnswersAndLengths();
        usesRefusals();
        usesNeedsSleepersOnItsCoreAlone();
        usesKeepsOneCore();
        ceilings();
        blockingTakesTheLongest();
        blockingLooksAtRanksNotRanksNow();
        lowerGoesByNumbers();
        theLastTaskCountsToo();
        Check.finish();
    }

    private static void newObjectIsEmpty() {
        CeilingRows x = new CeilingRows();
        Check.due("new: rank(1)", x.rank(1), -1);
        Check.due("new: blocking(1)", x.blocking(1), -1);
        Check.due("new: lower(1, 0)", x.lower(1, 0), -1);
        Check.due("new: step(1, 0, 0, 0)", x.step(1, 0, 0, 0), -1);
        Check.due("new: ceiling(1)", x.ceiling(1), -1);
        Check.due("new: holder(1)", x.holder(1), -1);
        Check.due("new: uses(1, 1, 1)", x.uses(1, 1, 1), -1);
        Check.due("new: ring()", x.ring(), false);
        Check.due("new: plain(5)", x.plain(5), 0);
        x.task(1, 1);
        x.resource();
        CeilingRows y = new CeilingRows();
        Check.due("another new: rank(1)", y.rank(1), -1);
        Check.due("another new: ceiling(1)", y.ceiling(1), -1);
    }

    private static void tasksAreNumbered() {
        CeilingRows x = new CeilingRows();
        for (int k = 1; k <= 10; k++) {
            int rank = k == 1 ? 1 : 2 * k;
            Check.due("task " + k, x.task(rank, 1 + k % 3), k);
            Check.due("rank of a new task " + k, x.rank(k), rank);
            Check.due("a new task sleeps: " + k, x.step(k, 3, 0, 0), -3);
        }
        Check.due("an eleventh task", x.task(5, 1), -4);
        Check.due("no eleventh task", x.rank(11), -1);
        Check.due("a range goes before no room", x.task(0, 1), -2);
        Check.due("a core's range goes before no room", x.task(1, 4), -2);
    }

    private static void taskRefusals() {
        CeilingRows x = new CeilingRows();
        int[][] wrong = {{0, 1}, {21, 1}, {-1, 1}, {1, 0}, {1, 4}, {1, -1}, {0, 0},
            {Integer.MIN_VALUE, 1}, {Integer.MAX_VALUE, 2}, {1, Integer.MIN_VALUE}, {1, Integer.MAX_VALUE}};
        for (int[] w : wrong) {
            Check.due("task(" + w[0] + ", " + w[1] + ")", x.task(w[0], w[1]), -2);
        }
        Check.due("refused tasks take no number", x.task(20, 3), 1);
        Check.due("the least rank and core", x.task(1, 1), 2);
    }

    private static void resourcesAreNumbered() {
        CeilingRows x = new CeilingRows();
        for (int k = 1; k <= 8; k++) {
            Check.due("no resource yet: " + k, x.ceiling(k), -1);
            Check.due("resource " + k, x.resource(), k);
            Check.due("ceiling of a new resource " + k, x.ceiling(k), 0);
            Check.due("holder of a new resource " + k, x.holder(k), 0);
        }
        Check.due("a ninth resource", x.resource(), -4);
        Check.due("no ninth resource", x.ceiling(9), -1);
    }

    private static void usesAnswersAndLengths() {
        CeilingRows x = twoTasksOneResource();
        Check.due("a first use", x.uses(1, 1, 1), 1);
        Check.due("a first use of another task", x.uses(2, 1, 1), 1);
        Check.due("blocking with the least length", x.blocking(2), 1);
        Check.due("the same use again", x.uses(1, 1, 1000), 0);
        Check.due("the greatest length is the one from now on", x.blocking(2), 1000);
        Check.due("a third time", x.uses(1, 1, 7), 0);
        Check.due("a shorter length is the one from now on", x.blocking(2), 7);
    }

    private static void usesRefusals() {
        CeilingRows x = twoTasksOneResource();
        int[] unknown = {0, -1, 3, 11, Integer.MIN_VALUE, Integer.MAX_VALUE};
        for (int u : unknown) {
            Check.due("uses(" + u + ", 1, 1)", x.uses(u, 1, 1), -1);
            Check.due("uses(1, " + u + ", 1)", x.uses(1, u, 1), -1);
        }
        long[] lengths = {0, -1, 1001, Long.MIN_VALUE, Long.MAX_VALUE, (1L << 32) + 5};
        for (long length : lengths) {
            Check.due("uses(1, 1, " + length + ")", x.uses(1, 1, length), -2);
            Check.due("unknown goes before the range", x.uses(1, 2, length), -1);
        }
        Check.due("nothing was used", x.ceiling(1), 0);
        x.step(1, 0, 0, 0);
        Check.due("the range goes before the state", x.uses(1, 1, 0), -2);
        Check.due("unknown goes before the state", x.uses(1, 2, 1), -1);
        Check.due("the state", x.uses(1, 1, 1), -3);
        Check.due("the state left nothing", x.ceiling(1), 0);
    }

    private static void usesNeedsSleepersOnItsCoreAlone() {
        CeilingRows x = twoTasksOneResource();
        x.task(4, 2);
        x.resource();
        x.uses(1, 1, 5);
        x.step(3, 0, 0, 0);
        Check.due("a ready task of another core", x.uses(1, 1, 6), 0);
        Check.due("a ready task of its own", x.uses(3, 2, 6), -3);
        x.step(2, 0, 0, 0);
        Check.due("another ready task of the core", x.uses(1, 1, 7), -3);
        Check.due("the length stays", x.blocking(2), 0);
        x.step(2, 4, 0, 0);
        Check.due("a task of the core that waits", x.uses(1, 1, 7), -3);
        x.step(2, 5, 0, 0);
        x.step(2, 3, 0, 0);
        Check.due("all of the core sleep again", x.uses(1, 1, 7), 0);
    }

    private static void usesKeepsOneCore() {
        CeilingRows x = twoTasksOneResource();
        x.task(9, 2);
        Check.due("a use of core 1", x.uses(1, 1, 5), 1);
        Check.due("a use of core 2", x.uses(3, 1, 5), -3);
        Check.due("the ceiling stays", x.ceiling(1), 3);
        Check.due("another use of core 1", x.uses(2, 1, 5), 1);
        Check.due("the ceiling of both", x.ceiling(1), 8);
    }

    private static CeilingRows twoTasksOneResource() {
        CeilingRows x = new CeilingRows();
        x.task(3, 1);
        x.task(8, 1);
        x.resource();
        return x;
    }

    private static void ceilings() {
        CeilingRows x = new CeilingRows();
        x.task(3, 1);
        x.task(20, 1);
        x.task(11, 1);
        x.resource();
        x.resource();
        x.uses(2, 1, 5);
        x.uses(1, 1, 900);
        x.uses(3, 2, 1);
        x.uses(1, 2, 1);
        Check.due("the greatest rank, not the latest", x.ceiling(1), 20);
        Check.due("the greatest of its own users", x.ceiling(2), 11);
        int[] unknown = {0, -1, 3, 9, Integer.MIN_VALUE, Integer.MAX_VALUE};
        for (int u : unknown) {
            Check.due("ceiling(" + u + ")", x.ceiling(u), -1);
        }
    }

    /** Tasks 1 to 4 of core 1 with ranks 2, 6, 6, 9; task 5 of core 2 with rank 1; resources 1 to 4. */
    private static CeilingRows fiveTasks() {
        CeilingRows x = new CeilingRows();
        x.task(2, 1);
        x.task(6, 1);
        x.task(6, 1);
        x.task(9, 1);
        x.task(1, 2);
        for (int k = 0; k < 4; k++) {
            x.resource();
        }
        return x;
    }

    private static void blockingTakesTheLongest() {
        CeilingRows x = fiveTasks();
        x.uses(1, 1, 30);
        x.uses(1, 2, 20);
        Check.due("a ceiling below the rank keeps nobody waiting", x.blocking(2), 0);
        x.uses(2, 2, 500);
        Check.due("a ceiling as great as the rank", x.blocking(2), 20);
        Check.due("the other one of that rank", x.blocking(3), 20);
        Check.due("a rank above the ceilings", x.blocking(4), 0);
        x.uses(4, 1, 700);
        Check.due("the longest of two", x.blocking(2), 30);
        Check.due("a task's own uses do not count", x.blocking(4), 30);
        x.uses(3, 1, 40);
        Check.due("the same rank does not count", x.blocking(2), 30);
        Check.due("less rank counts", x.blocking(4), 40);
        x.uses(5, 3, 99);
        Check.due("another core does not count", x.blocking(2), 30);
        Check.due("alone on its core", x.blocking(5), 0);
        Check.due("the least rank", x.blocking(1), 0);
        int[] unknown = {0, -1, 6, Integer.MIN_VALUE, Integer.MAX_VALUE};
        for (int u : unknown) {
            Check.due("blocking(" + u + ")", x.blocking(u), -1);
            Check.due("lower(" + u + ", 0)", x.lower(u, 0), -1);
            Check.due("lower(" + u + ", -1)", x.lower(u, -1), -1);
        }
    }

    private static void blockingLooksAtRanksNotRanksNow() {
        CeilingRows x = fiveTasks();
        x.uses(1, 1, 30);
        x.uses(4, 1, 7);
        x.uses(2, 2, 3);
        x.step(1, 0, 0, 0);
        x.step(1, 1, 1, 0);
        Check.due("it holds the ceiling", x.rank(1), 9);
        Check.due("its own blocking is that of its rank", x.blocking(1), 0);
        Check.due("it still may keep others waiting", x.blocking(4), 30);
        Check.due("lower while it holds", x.lower(4, 0), 1);
        Check.due("lower of itself", x.lower(1, 0), 0);
    }

    private static void lowerGoesByNumbers() {
        CeilingRows x = fiveTasks();
        x.uses(3, 1, 1);
        x.uses(4, 1, 1);
        Check.due("lower(4, 0)", x.lower(4, 0), 3);
        x.uses(1, 1, 1);
        x.uses(1, 2, 1);
        x.uses(2, 2, 1);
        Check.due("lower(4, 0) by numbers", x.lower(4, 0), 1);
        Check.due("lower(4, 1): a ceiling below does not count", x.lower(4, 1), 3);
        Check.due("lower(4, 2)", x.lower(4, 2), 0);
        x.uses(4, 2, 1);
        Check.due("lower(4, 1) with one more", x.lower(4, 1), 2);
        Check.due("lower(4, 2) with one more", x.lower(4, 2), 3);
        Check.due("lower(4, 3)", x.lower(4, 3), 0);
        Check.due("lower(2, 0)", x.lower(2, 0), 1);
        Check.due("lower(2, 1): the same rank does not count", x.lower(2, 1), 0);
        int[] beyond = {-1, Integer.MIN_VALUE, Integer.MAX_VALUE, 10};
        for (int i : beyond) {
            Check.due("lower(4, " + i + ")", x.lower(4, i), 0);
        }
        x.uses(5, 3, 1);
        Check.due("another core's task", x.lower(2, 1), 0);
        Check.due("alone on its core", x.lower(5, 0), 0);
    }

    private static void theLastTaskCountsToo() {
        CeilingRows x = new CeilingRows();
        x.task(9, 1);
        x.task(2, 1);
        x.resource();
        x.uses(1, 1, 5);
        x.uses(2, 1, 6);
        Check.due("blocking by the last task", x.blocking(1), 6);
        Check.due("lower is the last task", x.lower(1, 0), 2);
    }
}
