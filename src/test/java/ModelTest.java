import java.util.Random;

/** Long runs of calls, the same ones each time, against the model; every promise takes part. */
public final class ModelTest {
    private static final int RUNS = 1500;
    private static final int CALLS = 512;

    private final Random random;
    private final CeilingRows x = new CeilingRows();
    private final Model model = new Model();
    private final int run;
    private int calls;
    private long time;

    private ModelTest(int run) {
        this.run = run;
        random = new Random(run);
    }

    public static void main(String[] args) {
        for (int run = 1; run <= RUNS; run++) {
            new ModelTest(run).compare();
        }
        Check.finish();
    }

    private void compare() {
        int cores = 1 + random.nextInt(3);
        int tasks = 1 + random.nextInt(10);
        for (int k = 0; k < tasks; k++) {
            makeTask(1 + random.nextInt(20), 1 + random.nextInt(cores));
        }
        int resources = random.nextInt(9);
        for (int k = 0; k < resources; k++) {
            due("resource()", x.resource(), model.resource());
        }
        int uses = random.nextInt(60);
        for (int k = 0; k < uses; k++) {
            makeUse(1 + random.nextInt(tasks), 1 + random.nextInt(8), 1 + random.nextInt(6));
        }
        // a turn makes two calls at most
        while (calls < CALLS - 1) {
            takeTurn();
        }
    }

    private void takeTurn() {
        int choice = random.nextInt(100);
        if (choice < 55) {
            makeStep();
        } else if (choice < 70) {
            askAboutStates();
        } else if (choice < 80) {
            makeLock();
        } else if (choice < 88) {
            askAboutDelays();
        } else if (choice < 95) {
            makeTrial();
        } else {
            changePlan();
        }
    }

    private void makeStep() {
        int task = number(10);
        int kind = random.nextInt(40) == 0 ? number(6) - 1 : random.nextInt(6);
        int resource = number(8);
        if (random.nextInt(40) == 0) {
            time = Math.max(0, time - 2);
        }
        long t = time + random.nextInt(2);
        int answer = x.step(task, kind, resource, t);
        due("step(" + task + ", " + kind + ", " + resource + ", " + t + ")", answer,
                model.step(task, kind, resource, t));
        if (answer >= 0) {
            time = t;
        }
    }

    private void askAboutStates() {
        int task = number(10);
        due("rank(" + task + ")", x.rank(task), model.rank(task));
        int resource = number(8);
        due("holder(" + resource + ")", x.holder(resource), model.holder(resource));
    }

    private void makeLock() {
        int core = number(3);
        int n = random.nextBoolean() ? number(8) : -number(8);
        due("lock(" + core + ", " + n + ")", x.lock(core, n), model.lock(core, n));
        due("ring()", x.ring() ? 1 : 0, model.ring() ? 1 : 0);
    }

    private void askAboutDelays() {
        int task = number(10);
        int i = random.nextInt(7) - 1;
        due("blocking(" + task + ")", x.blocking(task), model.blocking(task));
        due("lower(" + task + ", " + i + ")", x.lower(task, i), model.lower(task, i));
    }

    private void makeTrial() {
        long phases = random.nextLong();
        due("plain(" + phases + ")", x.plain(phases), model.plain(phases));
    }

    private void changePlan() {
        int choice = random.nextInt(10);
        if (choice == 0) {
            makeTask(number(20), number(3));
        } else if (choice == 1) {
            due("resource()", x.resource(), model.resource());
        } else if (choice < 8) {
            makeUse(number(10), number(8), random.nextInt(8) == 0 ? number(1000) : number(9));
        } else {
            int resource = number(8);
            due("ceiling(" + resource + ")", x.ceiling(resource), model.ceiling(resource));
        }
    }

    private void makeTask(int rank, int core) {
        due("task(" + rank + ", " + core + ")", x.task(rank, core), model.task(rank, core));
    }

    private void makeUse(int task, int resource, long length) {
        due("uses(" + task + ", " + resource + ", " + length + ")", x.uses(task, resource, length),
                model.uses(task, resource, length));
    }

    /** Mostly 1 to most, now and then just outside. */
    private int number(int most) {
        return random.nextInt(30) == 0 ? (random.nextBoolean() ? 0 : most + 1) : 1 + random.nextInt(most);
    }

    private void due(String call, long got, long want) {
        calls++;
        Check.due("run " + run + ": " + call, got, want);
    }
}
