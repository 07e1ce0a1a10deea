/** The edges of promises 1 to 5, 9 and 12, and of the terms on tasks and resources. */
final class PlanEdges {
    private static final String BLOCKING =
            "The longest that a task may be kept waiting: the greatest LENGTH with which a task of its CORE of less "
            + "RANK USES a resource whose CEILING is not below its RANK; 0 without such. -1 there is no task.";
    private static final String LOWER =
            "The i-th (from 0) task, by numbers, that may keep a task waiting: of its CORE, of less RANK, that USES a "
            + "resource whose CEILING is not below its RANK; 0 if there is none. -1 there is no task.";
    private static final long LEAST = Integer.MIN_VALUE;
    private static final long MOST = Integer.MAX_VALUE;

    private PlanEdges() {
    }

    static void check() {
        aNewObjectIsEmpty();
        tenTasks();
        ranks();
        cores();
        newTasksSleep();
        eightResources();
        lengths();
        oneCoreForEachResource();
        ceilings();
        taskAnswers();
        resourceAnswers();
        usesAnswers();
        usesRefusals();
        usesOfAnAwakeCore();
        ceilingOfWhatIsThere();
        blockingAtItsEdges();
        blockingOfTheFullObject();
        lowerAtItsEdges();
        lowerOfTheFullObject();
        theLastTaskAndResourceCount();
        ranksNowDoNotCount();
    }

    private static void aNewObjectIsEmpty() {
        Script s = Script.of("No tasks, no resources.");
        for (int k = -1; k <= 11; k++) {
            s.due("rank " + k, -1).due("blocking " + k, -1).due("lower " + k + " 0", -1);
            s.due("ceiling " + k, -1).due("holder " + k, -1).due("uses " + k + " " + k + " 1", -1);
            s.due("START " + k + " 0", -1).due("EVENT " + k + " 0", -1);
        }
        s.due("plain 0", 0).due("plain -1", 0).due("ring", 0);
        s.due("task 1 1", 1).due("resource", 1);
        Script other = Script.of("No tasks, no resources.");
        other.due("rank 1", -1).due("holder 1", -1);
    }

    private static void tenTasks() {
        Script s = Script.of("TASKS are numbered from 1 on, at most 10");
        for (int k = 1; k <= 10; k++) {
            s.due("rank " + k, -1).due("task " + (k + 5) + " 1", k).due("rank " + k, k + 5);
        }
        s.due("task 5 1", -4).due("task 5 2", -4).due("task 5 3", -4);
        s.dueForEach("rank ?", -1, 0, -1, -10, 11, 12, LEAST, MOST);
        s.dueForEach("START ? 0", -1, 0, -1, -10, 11, 12, LEAST, MOST);
        s.due("rank 1", 6).due("rank 10", 15).due("START 1 0", 1).due("START 10 0", 1);
    }

    private static void ranks() {
        Script s = Script.of("each with a RANK (1 .. 20)");
        s.dueForEach("task ? 1", -2, 0, 21, -1, -20, 22, LEAST, MOST);
        s.due("task 1 1", 1).due("rank 1", 1);
        s.due("task 20 1", 2).due("rank 2", 20);
        s.dueForEach("task ? 1", -2, 0, 21);
        s.due("task 2 1", 3).due("task 19 1", 4);
        s.due("rank 3", 2).due("rank 4", 19).due("rank 5", -1);
    }

    private static void cores() {
        Script s = Script.of("and a CORE (1 .. 3)");
        s.dueForEach("task 5 ?", -2, 0, 4, -1, -3, 5, LEAST, MOST);
        s.due("task 5 1", 1).due("task 5 2", 2).due("task 5 3", 3);
        s.dueForEach("task 5 ?", -2, 0, 4);
        // each of the three has a core of its own, or the later ones would not run
        s.due("START 1 0", 1).due("START 2 0", 1).due("START 3 0", 1);
        s.due("task 5 1", 4).due("START 4 0", 0);
    }

    private static void newTasksSleep() {
        Script s = Script.of("at first it SLEEPS");
        s.made("resource");
        for (int k = 1; k <= 10; k++) {
            s.made("task " + k + " 1");
            s.due("TAKE " + k + " 1 0", -3).due("GIVE " + k + " 1 0", -3).due("END " + k + " 0", -3);
            s.due("WAIT " + k + " 0", -3).due("EVENT " + k + " 0", -3);
            s.due("START " + k + " 0", 1).due("START " + k + " 0", -3);
        }
    }

    private static void eightResources() {
        Script s = Script.of("RESOURCES are numbered from 1 on, at most 8.");
        s.made("task 5 1");
        for (int r = 1; r <= 8; r++) {
            s.due("ceiling " + r, -1).due("holder " + r, -1).due("uses 1 " + r + " 1", -1);
            s.due("resource", r);
            s.due("ceiling " + r, 0).due("holder " + r, 0).due("uses 1 " + r + " 1", 1);
        }
        s.due("resource", -4).due("resource", -4);
        s.dueForEach("ceiling ?", -1, 0, 9, -1, -8, 10, LEAST, MOST);
        s.dueForEach("holder ?", -1, 0, 9, -1, -8, 10, LEAST, MOST);
        s.due("ceiling 1", 5).due("ceiling 8", 5);
        s.made("START 1 0").due("TAKE 1 8 0", 1).due("holder 8", 1).due("TAKE 1 9 0", -1);
    }

    private static void lengths() {
        Script s = Script.of("A task may USE a resource, with a LENGTH (1 .. 1000)");
        s.made("task 3 1", "task 8 1", "resource", "uses 2 1 1");
        s.dueForEach("uses 1 1 ?", -2, 0, 1001, -1, -1000, 1002, Long.MIN_VALUE, Long.MAX_VALUE);
        // cut to an int these would be lengths
        s.dueForEach("uses 1 1 ?", -2, (1L << 32) + 1, (1L << 32) + 1000, (1L << 63) + 7, -(1L << 32) + 5);
        s.due("blocking 2", 0);
        s.due("uses 1 1 1", 1).due("blocking 2", 1);
        s.due("uses 1 1 0", -2).due("blocking 2", 1);
        s.due("uses 1 1 1000", 0).due("blocking 2", 1000);
        s.due("uses 1 1 1001", -2).due("blocking 2", 1000);
        s.due("uses 1 1 999", 0).due("blocking 2", 999).due("uses 1 1 2", 0).due("blocking 2", 2);
    }

    private static void oneCoreForEachResource() {
        for (int core = 1; core <= 3; core++) {
            Script s = Script.of("all that USE one are of one CORE");
            s.made("task 1 1", "task 2 2", "task 3 3", "resource", "resource", "task 4 " + core);
            s.due("uses " + core + " 1 5", 1);
            for (int other = 1; other <= 3; other++) {
                s.due("uses " + other + " 1 6", other == core ? 0 : -3);
            }
            s.due("uses 4 1 5", 1).due("uses 4 1 5", 0).due("ceiling 1", 4);
            // a resource without users is open to every core until one of them uses it
            int next = core % 3 + 1;
            s.due("uses " + next + " 2 5", 1).due("uses " + core + " 2 5", -3).due("ceiling 2", next);
        }
    }

    private static void ceilings() {
        Script s = Script.of("The CEILING of a resource is the greatest RANK of those that USE it, 0 without any.");
        s.made("task 1 1", "task 20 1", "task 19 1", "resource", "resource", "resource");
        s.due("ceiling 1", 0);
        s.made("uses 1 1 1000").due("ceiling 1", 1);
        s.made("uses 3 1 1").due("ceiling 1", 19);
        s.made("uses 2 1 1").due("ceiling 1", 20);
        s.made("uses 2 2 1", "uses 1 2 1").due("ceiling 2", 20);
        s.made("uses 1 1 7").due("ceiling 1", 20);
        s.due("ceiling 3", 0).made("task 20 1").due("ceiling 3", 0);
    }

    private static void taskAnswers() {
        Script s = Script.of("A task: its number. -2 RANK or CORE is none, -4 there are 10.");
        s.due("task 0 0", -2).due("task 21 4", -2);
        for (int k = 1; k <= 9; k++) {
            s.due("task 0 1", -2).due("task 1 1", k).due("task 1 4", -2);
        }
        s.due("task 20 3", 10).due("task 20 3", -4).due("task 1 1", -4);
        s.due("task 0 1", -2).due("task 21 1", -2).due("task 1 0", -2).due("task 1 4", -2);
        s.due("rank 11", -1).due("rank 10", 20).due("START 10 0", 1);
    }

    private static void resourceAnswers() {
        Script s = Script.of("A resource: its number. -4 there are 8.");
        for (int r = 1; r <= 8; r++) {
            s.due("resource", r);
        }
        for (int more = 0; more < 8; more++) {
            s.due("resource", -4);
        }
        s.due("ceiling 8", 0).due("ceiling 9", -1).due("holder 9", -1).due("task 1 1", 1);
    }

    private static void usesAnswers() {
        Script s = Script.of("A task USES a resource, its LENGTH is this one from now on: 1, or 0 if it USED it "
                + "before.");
        s.made("task 3 1", "task 8 1", "resource", "resource");
        s.due("uses 2 1 4", 1).due("uses 1 1 10", 1).due("blocking 2", 10);
        s.due("uses 1 1 10", 0).due("blocking 2", 10);
        s.due("uses 1 1 11", 0).due("blocking 2", 11);
        s.due("uses 1 1 9", 0).due("blocking 2", 9);
        // used before is told for each task and resource apart
        s.due("uses 1 2 9", 1).due("uses 2 2 9", 1).due("uses 2 1 9", 0);
        // a refused use is no use before
        s.made("resource").due("uses 1 3 0", -2).due("uses 1 3 1", 1);
        s.made("START 1 0").due("TAKE 1 2 0", 1).due("TAKE 1 1 0", 1);
    }

    private static void usesRefusals() {
        Script s = Script.of("-1 there is no such task or resource, -2 the LENGTH is none");
        s.made("task 3 1", "task 4 1", "resource", "resource", "resource");
        s.dueForEach("uses ? 1 5", -1, 0, 3, -1, 10, 11, LEAST, MOST);
        s.dueForEach("uses 1 ? 5", -1, 0, 4, -1, 8, 9, LEAST, MOST);
        s.dueForEach("uses ? 4 1001", -1, 0, 1, 2, 3);
        s.dueForEach("uses 3 1 ?", -1, 0, 1001, -1, Long.MIN_VALUE, Long.MAX_VALUE);
        s.dueForEach("uses 1 4 ?", -1, 0, 1001, -1, Long.MIN_VALUE, Long.MAX_VALUE);
        s.dueForEach("uses 2 3 ?", -2, 0, 1001, -1, Long.MIN_VALUE, Long.MAX_VALUE);
        s.due("ceiling 1", 0).due("ceiling 2", 0).due("ceiling 3", 0).due("uses 2 3 1", 1);
    }

    private static void usesOfAnAwakeCore() {
        Script s = Script.of("-3 some task of its CORE does not SLEEP, or another CORE's task USES it.");
        s.made("task 3 1", "task 8 1", "task 5 2", "resource", "resource", "uses 1 1 5", "uses 2 1 5");
        s.made("START 2 0").due("uses 1 1 6", -3).due("uses 2 1 6", -3).due("uses 1 2 6", -3);
        s.due("uses 3 2 6", 1).due("uses 3 1 6", -3);
        s.made("WAIT 2 0").due("uses 1 1 6", -3).due("uses 2 1 6", -3);
        s.made("EVENT 2 0").due("uses 1 1 6", -3);
        s.made("END 2 0").due("blocking 2", 5).due("uses 1 1 6", 0).due("blocking 2", 6);
        s.made("START 3 0").due("uses 1 1 7", 0).due("uses 3 2 7", -3);
        // both reasons at once, and both with a reason that comes before
        s.made("START 1 0").due("uses 1 2 5", -3).due("uses 1 2 0", -2).due("uses 1 3 0", -1).due("uses 3 1 0", -2);
        s.made("END 3 0").due("uses 3 2 7", 0).due("uses 3 1 7", -3);
        s.made("TAKE 1 1 0").due("END 1 0", -14).due("uses 1 1 8", 0).due("blocking 2", 8);
    }

    private static void ceilingOfWhatIsThere() {
        Script s = Script.of("The CEILING of a resource. -1 there is none.");
        s.due("ceiling 1", -1).made("resource").due("ceiling 1", 0).due("ceiling 2", -1).due("ceiling 0", -1);
        s.made("task 20 2", "uses 1 1 3").due("ceiling 1", 20).due("ceiling 2", -1);
        s.made("START 1 0", "TAKE 1 1 0").due("ceiling 1", 20);
        s.dueForEach("ceiling ?", -1, -1, 9, LEAST, MOST);
    }

    private static void blockingAtItsEdges() {
        Script s = Script.of(BLOCKING);
        s.made("task 5 1", "task 6 1", "task 6 1", "task 7 1", "task 5 2", "resource", "resource", "resource");
        s.due("blocking 2", 0).made("uses 1 1 30").due("blocking 2", 0);
        // a ceiling of 6: not below 6, below 7
        s.made("uses 2 1 99").due("blocking 2", 30).due("blocking 3", 30).due("blocking 4", 0).due("blocking 1", 0);
        // a ceiling of 7: the rank 6 is less than 7 now, but not less than 6
        s.made("uses 4 1 500").due("blocking 4", 99).due("blocking 3", 30).due("blocking 2", 30);
        s.made("uses 1 2 1000").due("blocking 2", 30);
        s.made("uses 3 2 1").due("blocking 2", 1000).due("blocking 4", 99);
        s.made("uses 5 3 700").due("blocking 5", 0).due("blocking 4", 99);
        s.dueForEach("blocking ?", -1, 0, 6, -1, 10, 11, LEAST, MOST);
        s.made("task 20 3").due("blocking 6", 0).due("blocking 7", -1);
    }

    private static void blockingOfTheFullObject() {
        Script s = fullPlan(BLOCKING);
        // task k has the rank 2 k, and uses resource r with the length 100 r + k
        s.due("blocking 1", 0);
        for (int k = 2; k <= 10; k++) {
            s.due("blocking " + k, 800 + k - 1);
        }
    }

    private static void theLastTaskAndResourceCount() {
        for (String sentence : new String[] {BLOCKING, LOWER}) {
            Script s = Script.of(sentence).made("task 9 1", "task 2 1", "resource", "resource");
            s.made("uses 2 2 6").due("blocking 1", 0).due("lower 1 0", 0);
            s.made("uses 1 2 5").due("blocking 1", 6).due("lower 1 0", 2).due("lower 1 1", 0);
        }
    }

    /** What is held, who is ready, and who spins leave both answers as they are: they go by RANK, not by RANK NOW. */
    private static void ranksNowDoNotCount() {
        for (String sentence : new String[] {BLOCKING, LOWER}) {
            Script s = Script.of(sentence).made("task 2 1", "task 6 1", "task 9 1", "resource", "resource");
            s.made("uses 1 1 30", "uses 3 1 5", "uses 2 2 40", "START 1 0", "TAKE 1 1 0").due("rank 1", 9);
            s.due("blocking 1", 0).due("blocking 2", 30).due("blocking 3", 30);
            s.due("lower 1 0", 0).due("lower 2 0", 1).due("lower 3 0", 1).due("lower 3 1", 0);
        }
    }

    private static void lowerAtItsEdges() {
        Script s = Script.of(LOWER);
        s.made("task 7 1", "task 6 1", "task 5 1", "task 6 1", "task 5 2", "resource", "resource", "resource");
        s.due("lower 1 0", 0).made("uses 3 1 30").due("lower 2 0", 0);
        s.made("uses 2 1 99").due("lower 2 0", 3).due("lower 4 0", 3).due("lower 1 0", 0).due("lower 3 0", 0);
        s.made("uses 1 1 500").due("lower 1 0", 2).due("lower 1 1", 3).due("lower 1 2", 0);
        s.due("lower 2 0", 3).due("lower 2 1", 0);
        // a second resource with a ceiling of its own: each task is told once
        s.made("uses 3 2 1", "uses 4 2 1").due("lower 2 0", 3).due("lower 2 1", 0).due("lower 1 2", 0);
        s.made("uses 1 2 1").due("lower 1 2", 4).due("lower 1 3", 0);
        s.made("uses 5 3 1").due("lower 5 0", 0).due("lower 1 3", 0);
        s.dueForEach("lower 1 ?", 0, -1, -2, 3, 10, 11, LEAST, MOST);
        s.dueForEach("lower ? 0", -1, 0, 6, -1, 10, 11, LEAST, MOST);
        s.dueForEach("lower 6 ?", -1, -1, 0, 1, LEAST, MOST);
    }

    private static void lowerOfTheFullObject() {
        Script s = fullPlan(LOWER);
        for (int k = 1; k <= 10; k++) {
            s.due("lower " + k + " -1", 0);
            for (int i = 0; i < k - 1; i++) {
                s.due("lower " + k + " " + i, i + 1);
            }
            s.due("lower " + k + " " + (k - 1), 0);
        }
    }

    /** Ten tasks of one core with ranks 2 to 20, each of which uses all eight resources. */
    private static Script fullPlan(String sentence) {
        Script s = Script.of(sentence);
        for (int k = 1; k <= 10; k++) {
            s.made("task " + 2 * k + " 3");
        }
        for (int r = 1; r <= 8; r++) {
            s.made("resource");
            for (int k = 1; k <= 10; k++) {
                s.made("uses " + k + " " + r + " " + (100 * r + k));
            }
        }
        return s;
    }
}
