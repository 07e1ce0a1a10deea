import java.util.ArrayList;
import java.util.List;

/** Tells whether two ways to a state lead to the same one: two objects must answer alike to long rows of calls. */
final class Twins {
    private static final int TASKS = 10;
    private static final int RESOURCES = 8;
    private static final int CORES = 3;
    private static final int LOCKS = 8;

    private final String sentence;
    private final long time;

    /** The time is that of the latest step, so that a wrong one shows on both sides of it. */
    Twins(String sentence, long time) {
        this.sentence = sentence;
        this.time = time;
    }

    /** A call more, with its answer, leaves everything as it was. */
    void changesNothing(String[] state, String call, long answer) {
        for (List<String> probe : probes()) {
            Script plain = Script.of(sentence).made(state);
            Script called = Script.of(sentence).made(state).due(call, answer);
            alike(call, plain, called, probe);
        }
    }

    /** Two rows of calls behind the same state lead to the same one. */
    void sameState(String[] state, String[] one, String[] other) {
        for (List<String> probe : probes()) {
            Script first = Script.of(sentence).made(state);
            Script second = Script.of(sentence).made(state);
            answers(first, List.of(one));
            answers(second, List.of(other));
            alike(String.join(", ", one), first, second, probe);
        }
    }

    private void alike(String name, Script one, Script other, List<String> probe) {
        List<String> want = answers(one, probe);
        List<String> got = answers(other, probe);
        for (int k = 0; k < want.size(); k++) {
            if (!got.get(k).equals(want.get(k))) {
                Check.due("\"" + sentence + "\", behind " + name + ": " + got.get(k) + ", without it: " + want.get(k),
                        false, true);
                return;
            }
        }
    }

    private static List<String> answers(Script script, List<String> calls) {
        List<String> answers = new ArrayList<>();
        for (String call : calls) {
            answers.add(call + " = " + script.answer(call));
        }
        return answers;
    }

    private List<List<String>> probes() {
        return List.of(questions(), earlierAndLater(), givingBack(), taking(), ending(), waiting(), usesAfterwards(),
                locksGivenBack(), locksTaken());
    }

    private static List<String> questions() {
        List<String> calls = new ArrayList<>();
        for (int k = 0; k <= TASKS + 1; k++) {
            calls.add("rank " + k);
            calls.add("blocking " + k);
            for (int i = 0; i < 3; i++) {
                calls.add("lower " + k + " " + i);
            }
        }
        for (int r = 0; r <= RESOURCES + 1; r++) {
            calls.add("ceiling " + r);
            calls.add("holder " + r);
        }
        calls.add("ring");
        for (int at = 0; at < 8; at++) {
            calls.add("plain " + (0_7700 | at << 3));
            calls.add("plain " + (0_7070 | at << 6));
            calls.add("plain " + (at << 15));
        }
        for (int more = 0; more <= TASKS; more++) {
            calls.add("task 5 3");
            calls.add("resource");
        }
        return calls;
    }

    /** Steps just below the latest time are refused for it; those at it are not. */
    private List<String> earlierAndLater() {
        List<String> calls = new ArrayList<>();
        for (long t = time - 1; t <= time; t++) {
            for (int k = 1; k <= TASKS; k++) {
                calls.add("EVENT " + k + " " + t);
                calls.add("START " + k + " " + t);
                calls.add("WAIT " + k + " " + t);
            }
        }
        return calls;
    }

    private List<String> givingBack() {
        List<String> calls = new ArrayList<>();
        for (int round = 0; round < 3; round++) {
            for (int r = 1; r <= RESOURCES; r++) {
                calls.add("holder " + r);
                for (int k = 1; k <= TASKS; k++) {
                    calls.add("GIVE " + k + " " + r + " " + time);
                }
            }
        }
        return calls;
    }

    private List<String> taking() {
        List<String> calls = new ArrayList<>();
        for (int r = 1; r <= RESOURCES; r++) {
            for (int k = 1; k <= TASKS; k++) {
                calls.add("TAKE " + k + " " + r + " " + time);
                calls.add("rank " + k);
            }
            calls.add("holder " + r);
        }
        return calls;
    }

    /** Round after round the ones that run end, so the rows tell who is ready and in which order. */
    private List<String> ending() {
        List<String> calls = new ArrayList<>();
        for (int round = 0; round < TASKS; round++) {
            for (int k = 1; k <= TASKS; k++) {
                calls.add("END " + k + " " + time);
            }
        }
        for (int k = 1; k <= TASKS; k++) {
            calls.add("START " + k + " " + time);
        }
        return calls;
    }

    /** Tasks 1 and 5 give back what they hold, if anything; then the kept events show in the waits. */
    private List<String> waiting() {
        List<String> calls = new ArrayList<>();
        for (int r = RESOURCES; r >= 1; r--) {
            calls.add("GIVE 1 " + r + " " + time);
            calls.add("GIVE 5 " + r + " " + time);
        }
        for (int round = 0; round < TASKS; round++) {
            for (int k = 1; k <= TASKS; k++) {
                calls.add("WAIT " + k + " " + time);
            }
            calls.add("GIVE 1 3 " + time);
        }
        for (int k = TASKS; k >= 1; k--) {
            calls.add("EVENT " + k + " " + time);
        }
        calls.addAll(ending());
        return calls;
    }

    private List<String> usesAfterwards() {
        List<String> calls = new ArrayList<>();
        for (int core = 1; core <= CORES; core++) {
            calls.addAll(unlocking(core));
        }
        for (int k = 1; k <= TASKS; k++) {
            calls.add("EVENT " + k + " " + time);
        }
        calls.addAll(ending().subList(0, TASKS * TASKS));
        for (int k = 1; k <= TASKS; k++) {
            for (int r = 1; r <= RESOURCES; r++) {
                calls.add("uses " + k + " " + r + " " + r);
            }
        }
        calls.addAll(questions());
        return calls;
    }

    private List<String> locksGivenBack() {
        List<String> calls = new ArrayList<>();
        for (int round = 0; round < 4; round++) {
            for (int core = 1; core <= CORES; core++) {
                calls.addAll(unlocking(core));
            }
            calls.add("ring");
        }
        return calls;
    }

    private static List<String> unlocking(int core) {
        List<String> calls = new ArrayList<>();
        for (int n = LOCKS; n >= 1; n--) {
            calls.add("lock " + core + " " + -n);
        }
        return calls;
    }

    private List<String> locksTaken() {
        List<String> calls = new ArrayList<>();
        for (int n = 1; n <= LOCKS; n++) {
            for (int core = 1; core <= CORES; core++) {
                calls.add("lock " + core + " " + n);
            }
        }
        calls.addAll(locksGivenBack());
        return calls;
    }
}
