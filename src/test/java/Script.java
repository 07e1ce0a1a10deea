/** A new object and calls on it with the answers that are due, mostly all for one sentence of the document. */
final class Script {
    private static final int MOST_CALLS = 512;

    private final String title;
    private final CeilingRows rows = new CeilingRows();
    private int calls;

    private Script(String title) {
        this.title = title;
    }

    /** A script for something else than a sentence of the document. */
    static Script titled(String title) {
        return new Script(title);
    }

    /** The sentence is quoted word by word; Sentences looks it up in the document. */
    static Script of(String sentence) {
        Sentences.quote(sentence);
        return new Script(sentence);
    }

    /** Calls that lead up to the case; a refused one would make it another case. */
    Script made(String... leadingCalls) {
        for (String call : leadingCalls) {
            long got = answer(call);
            if (got < 0) {
                Check.due(named(call) + " (not refused)", got, 0);
            }
        }
        return this;
    }

    Script due(String call, long want) {
        Check.due(named(call), answer(call), want);
        return this;
    }

    /** The same call with each of the values in place of its '?'. */
    Script dueForEach(String call, long want, long... values) {
        for (long value : values) {
            due(call.replace("?", Long.toString(value)), want);
        }
        return this;
    }

    /** How many calls the document still speaks of. */
    int left() {
        return MOST_CALLS - calls;
    }

    /** The same call with the same answer, up to the last one that the document speaks of. */
    void dueToTheLast(String call, long want) {
        while (left() > 0) {
            due(call, want);
        }
    }

    /**
     * A call as a text: a method's name and its arguments, or a KIND's name with the task, the resource (TAKE and GIVE
     * alone) and the time. A boolean counts 1 or 0.
     */
    long answer(String call) {
        if (left() == 0) {
            throw new IllegalStateException("more calls than the document speaks of: " + named(call));
        }
        calls++;
        String[] words = call.split(" ");
        switch (words[0]) {
            case "task":
                return rows.task(number(words, 1), number(words, 2));
            case "resource":
                return rows.resource();
            case "uses":
                return rows.uses(number(words, 1), number(words, 2), Long.parseLong(words[3]));
            case "ceiling":
                return rows.ceiling(number(words, 1));
            case "step":
                return rows.step(number(words, 1), number(words, 2), number(words, 3), Long.parseLong(words[4]));
            case "rank":
                return rows.rank(number(words, 1));
            case "holder":
                return rows.holder(number(words, 1));
            case "blocking":
                return rows.blocking(number(words, 1));
            case "lock":
                return rows.lock(number(words, 1), number(words, 2));
            case "ring":
                return rows.ring() ? 1 : 0;
            case "lower":
                return rows.lower(number(words, 1), number(words, 2));
            case "plain":
                return rows.plain(Long.parseLong(words[1]));
            default:
                return namedStep(words);
        }
    }

    private long namedStep(String[] words) {
        switch (words[0]) {
            case "START":
                return rows.step(number(words, 1), 0, 0, Long.parseLong(words[2]));
            case "TAKE":
                return rows.step(number(words, 1), 1, number(words, 2), Long.parseLong(words[3]));
            case "GIVE":
                return rows.step(number(words, 1), 2, number(words, 2), Long.parseLong(words[3]));
            case "END":
                return rows.step(number(words, 1), 3, 0, Long.parseLong(words[2]));
            case "WAIT":
                return rows.step(number(words, 1), 4, 0, Long.parseLong(words[2]));
            case "EVENT":
                return rows.step(number(words, 1), 5, 0, Long.parseLong(words[2]));
            default:
                throw new IllegalArgumentException("no such call: " + words[0]);
        }
    }

    private static int number(String[] words, int at) {
        return Integer.parseInt(words[at]);
    }

    private String named(String call) {
        return "\"" + title + "\", call " + calls + ": " + call;
    }
}
