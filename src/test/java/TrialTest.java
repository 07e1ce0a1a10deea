/** Promise 13: trials. */
public final class TrialTest {
    public static void main(String[] args) {
        withoutTasksOrUses();
        delayByAHeldResource();
        onlyTheLowBitsCount();
        lengthsCountUpToThree();
        resourcesGoByNumbers();
        theRankRulesTheDelay();
        otherCoresDoNotDelay();
        delayInTheMiddleOfMany();
        tenTasksToTheEnd();
        nothingOfItStays();
        trialsAreApartFromTheSteps();
        Check.finish();
    }

    /** Phases from the start ticks of tasks 1, 2, .. */
    private static long phases(int... starts) {
        long bits = 0;
        for (int k = 0; k < starts.length; k++) {
            bits |= (long) starts[k] << (3 * k);
        }
        return bits;
    }

    private static void withoutTasksOrUses() {
        CeilingRows x = new CeilingRows();
        Check.due("without tasks", x.plain(-1), 0);
        x.resource();
        Check.due("without tasks, with a resource", x.plain(0), 0);
        x.task(3, 1);
        Check.due("one task", x.plain(7), 0);
        x.task(9, 1);
        for (int at = 0; at < 8; at++) {
            Check.due("two tasks without uses", x.plain(phases(0, at)), 0);
        }
    }

    /** Task 1 of less rank has tick 0 without, 1 to 3 with resource 1, and a tick without. */
    private static CeilingRows pair(long length) {
        CeilingRows x = new CeilingRows();
        x.task(3, 1);
        x.task(9, 1);
        x.resource();
        x.uses(1, 1, length);
        x.uses(2, 1, 1);
        return x;
    }

    private static void expect(CeilingRows x, String name, int[] dueByStart) {
        for (int at = 0; at < dueByStart.length; at++) {
            Check.due(name + ", task 2 starts at " + at, x.plain(phases(0, at)), dueByStart[at]);
        }
    }

    private static void delayByAHeldResource() {
        CeilingRows x = pair(3);
        expect(x, "length 3", new int[] {0, 0, 1, 1, 0, 0, 0, 0});
        Check.due("both later", x.plain(phases(4, 6)), 1);
        Check.due("task 1 later", x.plain(phases(5, 0)), 0);
        Check.due("task 1 starts in the middle of task 2", x.plain(phases(1, 0)), 0);
    }

    private static void onlyTheLowBitsCount() {
        CeilingRows x = pair(3);
        Check.due("bits above those of the tasks", x.plain(phases(0, 2) | (-1L << 6)), 1);
        Check.due("the sign bit", x.plain(phases(0, 2) | Long.MIN_VALUE), 1);
        Check.due("bits above, without a delay", x.plain(phases(0, 1) | (-1L << 6)), 0);
        Check.due("all bits", x.plain(-1), 0);
        Check.due("the greatest", x.plain(Long.MAX_VALUE), 0);
        Check.due("the least", x.plain(Long.MIN_VALUE), 0);
    }

    private static void lengthsCountUpToThree() {
        expect(pair(1), "length 1", new int[] {0, 0, 0, 0, 0, 0, 0, 0});
        expect(pair(2), "length 2", new int[] {0, 0, 1, 0, 0, 0, 0, 0});
        expect(pair(4), "length 4", new int[] {0, 0, 1, 1, 0, 0, 0, 0});
        expect(pair(1000), "length 1000", new int[] {0, 0, 1, 1, 0, 0, 0, 0});
        CeilingRows x = pair(3);
        x.uses(1, 1, 2);
        expect(x, "length 2 from now on", new int[] {0, 0, 1, 0, 0, 0, 0, 0});
    }

    private static void resourcesGoByNumbers() {
        CeilingRows x = new CeilingRows();
        x.task(3, 1);
        x.task(9, 1);
        x.resource();
        x.resource();
        x.resource();
        x.uses(1, 3, 2);
        x.uses(1, 1, 3);
        x.uses(2, 3, 1);
        // 0 without, 1 to 3 with resource 1 (ceiling 3), 4 without, 5 and 6 with resource 3 (ceiling 9), 7 without
        expect(x, "two resources", new int[] {0, 0, 0, 0, 0, 0, 1, 0});
        x.uses(2, 1, 1);
        expect(x, "two resources with a ceiling", new int[] {0, 0, 1, 1, 0, 0, 1, 0});
    }

    private static void theRankRulesTheDelay() {
        CeilingRows x = new CeilingRows();
        x.task(9, 1);
        x.task(9, 1);
        x.resource();
        x.uses(1, 1, 3);
        x.uses(2, 1, 3);
        expect(x, "the same rank is no delay", new int[] {0, 0, 0, 0, 0, 0, 0, 0});
        CeilingRows y = new CeilingRows();
        y.task(3, 1);
        y.task(9, 1);
        y.task(5, 1);
        y.resource();
        y.uses(1, 1, 3);
        y.uses(3, 1, 1);
        Check.due("a ceiling below does not delay", y.plain(phases(0, 2, 7)), 0);
        Check.due("a task between is delayed", y.plain(phases(0, 7, 2)), 1);
        Check.due("one above between is not, the one between is", y.plain(phases(0, 2, 2)), 1);
        CeilingRows z = new CeilingRows();
        z.task(3, 1);
        z.task(9, 1);
        z.task(5, 1);
        z.resource();
        z.uses(1, 1, 3);
        z.uses(2, 1, 1);
        Check.due("one that does not use it is delayed too", z.plain(phases(0, 7, 2)), 1);
    }

    private static void otherCoresDoNotDelay() {
        CeilingRows x = new CeilingRows();
        x.task(3, 1);
        x.task(9, 2);
        x.task(9, 3);
        x.resource();
        x.uses(1, 1, 3);
        for (int at = 0; at < 8; at++) {
            Check.due("other cores at " + at, x.plain(phases(0, at, at)), 0);
        }
        x.task(9, 1);
        x.uses(4, 1, 1);
        Check.due("its own core", x.plain(phases(0, 0, 0, 2)), 1);
        CeilingRows y = new CeilingRows();
        y.task(20, 1);
        y.task(3, 3);
        y.task(9, 3);
        y.resource();
        y.uses(2, 1, 3);
        y.uses(3, 1, 1);
        Check.due("each core has its tick", y.plain(phases(0, 0, 2)), 1);
        Check.due("on core 3 before it is held", y.plain(phases(0, 0, 1)), 0);
    }

    private static void delayInTheMiddleOfMany() {
        CeilingRows x = new CeilingRows();
        x.task(1, 1);
        x.task(5, 1);
        x.task(5, 1);
        x.resource();
        x.resource();
        x.uses(1, 1, 3);
        x.uses(2, 1, 1);
        x.uses(3, 2, 3);
        // task 2 starts first of the two at 2, when task 1 still has ticks 2 and 3 at rank 5
        Check.due("both of the rank are delayed by one use", x.plain(phases(0, 2, 2)), 1);
        // tasks 2 and 3 start at 0: each is behind the other, never behind task 1
        Check.due("one after the other", x.plain(phases(0, 0, 0)), 0);
    }

    private static void tenTasksToTheEnd() {
        CeilingRows x = new CeilingRows();
        for (int k = 1; k <= 10; k++) {
            x.task(k == 10 ? 1 : 20, 1);
        }
        for (int r = 1; r <= 8; r++) {
            x.resource();
            for (int k = 1; k <= 10; k++) {
                x.uses(k, r, 1000);
            }
        }
        Check.due("all at once", x.plain(0), 0);
        // task 10 starts at 0 and holds resource 1 when the others start at 3
        Check.due("the last one first", x.plain(phases(3, 3, 3, 3, 3, 3, 3, 3, 3, 0)), 1);
    }

    private static void nothingOfItStays() {
        CeilingRows x = pair(3);
        Check.due("a delay", x.plain(phases(0, 2)), 1);
        Check.due("no delay afterwards", x.plain(phases(0, 1)), 0);
        Check.due("a delay again", x.plain(phases(0, 2)), 1);
        Check.due("nobody holds", x.holder(1), 0);
        Check.due("rank of 1", x.rank(1), 3);
        Check.due("all sleep", x.uses(1, 1, 3), 0);
        Check.due("task 1 sleeps", x.step(1, 3, 0, 0), -3);
        Check.due("the time is 0 still", x.step(1, 0, 0, 0), 1);
    }

    private static void trialsAreApartFromTheSteps() {
        CeilingRows x = pair(3);
        x.step(1, 0, 0, 5);
        x.step(1, 1, 1, 5);
        x.step(2, 0, 0, 5);
        x.lock(2, 1);
        x.lock(1, 1);
        Check.due("a trial with tasks ready and a core that spins", x.plain(phases(0, 2)), 1);
        Check.due("another one", x.plain(phases(0, 1)), 0);
        Check.due("task 1 still holds", x.holder(1), 1);
        Check.due("task 1 is still up", x.rank(1), 9);
        Check.due("core 1 still spins", x.lock(1, 2), -3);
        x.lock(2, -1);
        Check.due("task 1 still runs", x.step(1, 2, 1, 5), 1);
        Check.due("task 2 runs then", x.step(2, 3, 0, 5), 1);
    }
}
