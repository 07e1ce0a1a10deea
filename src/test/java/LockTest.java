/** Promises 10 and 11: locks that cores spin for; and that no task runs on a core that spins. */
public final class LockTest {
    public static void main(String[] args) {
        refusals();
        risingOrder();
        givingBackInOrder();
        theLongestSpinnerIsNext();
        aLockHandedOverIsHeld();
        spinnersKeepWhatTheyHold();
        noTaskRunsOnASpinningCore();
        noRingEver();
        Check.finish();
    }

    private static void refusals() {
        CeilingRows x = new CeilingRows();
        int[] cores = {0, -1, 4, Integer.MIN_VALUE, Integer.MAX_VALUE};
        for (int core : cores) {
            Check.due("lock(" + core + ", 1)", x.lock(core, 1), -1);
            Check.due("lock(" + core + ", 0): the core goes first", x.lock(core, 0), -1);
        }
        int[] locks = {0, 9, -9, Integer.MIN_VALUE, Integer.MAX_VALUE, -Integer.MAX_VALUE};
        for (int n : locks) {
            Check.due("lock(1, " + n + ")", x.lock(1, n), -2);
        }
        x.lock(1, 4);
        Check.due("it spins", x.lock(2, 4), 0);
        for (int n : locks) {
            Check.due("the lock's range goes before the state", x.lock(2, n), -2);
        }
        Check.due("take while it spins", x.lock(2, 5), -3);
        Check.due("take the same while it spins", x.lock(2, 4), -3);
        Check.due("give back while it spins", x.lock(2, -4), -3);
        for (int n = 1; n <= 8; n++) {
            Check.due("give back what is not held: " + n, x.lock(3, -n), -17);
        }
    }

    private static void risingOrder() {
        CeilingRows x = new CeilingRows();
        Check.due("take 3", x.lock(1, 3), 1);
        Check.due("take 3 again", x.lock(1, 3), -16);
        Check.due("take 2", x.lock(1, 2), -16);
        Check.due("take 8", x.lock(1, 8), 1);
        Check.due("take 5, between", x.lock(1, 5), -16);
        Check.due("give back 8", x.lock(1, -8), 1);
        Check.due("take 5", x.lock(1, 5), 1);
        Check.due("another core takes 1", x.lock(2, 1), 1);
        Check.due("out of order goes before another's lock", x.lock(1, 1), -16);
        Check.due("it does not spin for that", x.lock(1, 8), 1);
    }

    private static void givingBackInOrder() {
        CeilingRows x = new CeilingRows();
        x.lock(1, 1);
        x.lock(1, 4);
        x.lock(2, 6);
        Check.due("give back 1 before 4", x.lock(1, -1), -17);
        Check.due("give back another core's", x.lock(1, -6), -17);
        Check.due("give back one that is free", x.lock(1, -8), -17);
        Check.due("give back 4", x.lock(1, -4), 1);
        Check.due("give back 4 again", x.lock(1, -4), -17);
        Check.due("4 is free", x.lock(3, 4), 1);
        Check.due("give back 1", x.lock(1, -1), 1);
        Check.due("1 is free", x.lock(2, -6), 1);
        Check.due("1 is free for another", x.lock(2, 1), 1);
    }

    private static void theLongestSpinnerIsNext() {
        int[][] orders = {{1, 2, 3}, {1, 3, 2}, {2, 1, 3}, {2, 3, 1}, {3, 1, 2}, {3, 2, 1}};
        for (int[] o : orders) {
            CeilingRows x = new CeilingRows();
            String name = "order " + o[0] + o[1] + o[2] + ": ";
            for (int round = 0; round < 2; round++) {
                Check.due(name + "take", x.lock(o[0], 5), 1);
                Check.due(name + "spin", x.lock(o[1], 5), 0);
                Check.due(name + "spin behind", x.lock(o[2], 5), 0);
                Check.due(name + "give back", x.lock(o[0], -5), 1);
                Check.due(name + "the first one has it not", x.lock(o[0], -5), -17);
                Check.due(name + "the last one spins still", x.lock(o[2], -5), -3);
                Check.due(name + "the first spinner has it", x.lock(o[1], -5), 1);
                Check.due(name + "the last one has it", x.lock(o[2], -5), 1);
                Check.due(name + "nobody has it", x.lock(o[2], -5), -17);
            }
        }
    }

    private static void aLockHandedOverIsHeld() {
        CeilingRows x = new CeilingRows();
        x.lock(1, 2);
        x.lock(2, 1);
        x.lock(2, 2);
        x.lock(3, 7);
        Check.due("hand over 2", x.lock(1, -2), 1);
        Check.due("core 1 spins for it now", x.lock(1, 2), 0);
        Check.due("core 2 took it last", x.lock(2, -1), -17);
        Check.due("core 2 holds it", x.lock(2, 2), -16);
        Check.due("core 2 takes more", x.lock(2, 7), 0);
        Check.due("core 3 gives back", x.lock(3, -7), 1);
        Check.due("core 2 gives back 7", x.lock(2, -7), 1);
        Check.due("core 2 gives back 2", x.lock(2, -2), 1);
        Check.due("core 1 has it", x.lock(1, -2), 1);
        Check.due("core 2 still has 1", x.lock(2, -1), 1);
    }

    private static void spinnersKeepWhatTheyHold() {
        CeilingRows x = new CeilingRows();
        x.lock(1, 3);
        x.lock(2, 5);
        Check.due("core 1 spins for 5", x.lock(1, 5), 0);
        Check.due("core 3 spins for 3, which a spinner holds", x.lock(3, 3), 0);
        Check.due("giving 5 back wakes only its own spinner", x.lock(2, -5), 1);
        Check.due("core 3 spins still", x.lock(3, 4), -3);
        Check.due("core 1 gives back 3 too early", x.lock(1, -3), -17);
        Check.due("core 1 gives back 5", x.lock(1, -5), 1);
        Check.due("core 1 gives back 3", x.lock(1, -3), 1);
        Check.due("core 3 goes on", x.lock(3, 4), 1);
    }

    private static void noTaskRunsOnASpinningCore() {
        CeilingRows x = new CeilingRows();
        x.task(4, 1);
        x.task(9, 1);
        x.task(4, 2);
        x.resource();
        x.uses(1, 1, 5);
        x.lock(2, 6);
        Check.due("START", x.step(1, 0, 0, 0), 1);
        Check.due("core 1 spins", x.lock(1, 6), 0);
        Check.due("TAKE", x.step(1, 1, 1, 1), 0);
        Check.due("GIVE", x.step(1, 2, 1, 1), 0);
        Check.due("END", x.step(1, 3, 0, 1), 0);
        Check.due("WAIT", x.step(1, 4, 0, 1), 0);
        Check.due("EVENT is kept", x.step(1, 5, 0, 1), 0);
        Check.due("START of more rank", x.step(2, 0, 0, 1), 0);
        Check.due("START again", x.step(2, 0, 0, 1), -3);
        Check.due("another core's task runs", x.step(3, 0, 0, 1), 1);
        Check.due("the answer 0 counts for the time", x.step(3, 3, 0, 0), -2);
        Check.due("nobody holds it", x.holder(1), 0);
        Check.due("core 2 gives back", x.lock(2, -6), 1);
        Check.due("2 runs", x.step(2, 3, 0, 1), 1);
        Check.due("1 has its event", x.step(1, 4, 0, 1), 1);
        Check.due("1 waits", x.step(1, 4, 0, 1), 0);
        Check.due("core 2 spins", x.lock(2, 6), 0);
        Check.due("WAITS on a core that holds", x.step(1, 5, 0, 2), 1);
        Check.due("asleep goes before not running", x.step(2, 3, 0, 2), -3);
    }

    private static void noRingEver() {
        CeilingRows x = new CeilingRows();
        Check.due("ring of nothing", x.ring(), false);
        x.lock(1, 1);
        x.lock(2, 2);
        x.lock(3, 3);
        Check.due("ring without spinners", x.ring(), false);
        Check.due("1 spins for 2's", x.lock(1, 2), 0);
        Check.due("ring of one spinner", x.ring(), false);
        Check.due("2 spins for 3's", x.lock(2, 3), 0);
        Check.due("ring of a chain", x.ring(), false);
        Check.due("what would close the ring is out of order", x.lock(3, 1), -16);
        Check.due("ring still", x.ring(), false);
        Check.due("3 gives back", x.lock(3, -3), 1);
        Check.due("3 spins at the end of the chain", x.lock(3, 1), 0);
        Check.due("ring of the other chain", x.ring(), false);
        Check.due("2 gives back 3", x.lock(2, -3), 1);
        Check.due("2 gives back 2", x.lock(2, -2), 1);
        Check.due("1 gives back 2", x.lock(1, -2), 1);
        Check.due("1 gives back 1", x.lock(1, -1), 1);
        Check.due("3 has it", x.lock(3, -1), 1);
        Check.due("ring after all", x.ring(), false);
    }
}
