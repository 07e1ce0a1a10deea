import java.io.IOException;
import java.nio.file.Files;
import java.nio.file.Path;
import java.util.ArrayList;
import java.util.HashMap;
import java.util.List;
import java.util.Map;
import java.util.Set;
import java.util.TreeSet;
import java.util.regex.MatchResult;
import java.util.regex.Matcher;
import java.util.regex.Pattern;
import java.util.stream.Stream;

/** What README.md says: its examples answer as it tells, and what it names is what stands in the project. */
public final class ReadmeTest {
    private static final String NEW_OBJECT = "CeilingRows rows = new CeilingRows();";
    private static final Pattern JAVA_BLOCK = Pattern.compile("(?s)```java\n(.*?)```");
    private static final Pattern EXAMPLE_CALL = Pattern.compile(
            "(?:int (\\w+) = )?rows\\.(\\w+)\\(([^)]*)\\); +// (-?\\d+|true|false)(?:: .+)?");
    private static final Path TESTS = Path.of("src/test/java");

    private final String readme;
    private final String document;
    /** All answers that the examples show. */
    private final Set<Long> shown = new TreeSet<>();

    private ReadmeTest(String readme, String document) {
        this.readme = readme;
        this.document = document;
    }

    public static void main(String[] args) throws IOException {
        ReadmeTest test = new ReadmeTest(Files.readString(Path.of("README.md")),
                Files.readString(Path.of("../shared/DOC.md")));
        test.examplesAnswerAsTold();
        test.callsAreTheDocuments();
        test.kindsAreTheDocuments();
        test.answersBelowZeroAreTheDocuments();
        test.classesInsideAreThere();
        test.testsAreThere();
        Check.finish();
    }

    private void examplesAnswerAsTold() {
        List<String> blocks = firstGroups(JAVA_BLOCK, readme);
        Check.due("examples in README.md", blocks.size(), 2);
        for (String block : blocks) {
            runExample(block.split("\n"));
        }
    }

    private void runExample(String[] lines) {
        Check.due("the example makes an object first", lines[0].equals(NEW_OBJECT), true);
        Script script = Script.titled("README.md");
        Map<String, Long> named = new HashMap<>();
        for (int k = 1; k < lines.length; k++) {
            Matcher call = EXAMPLE_CALL.matcher(lines[k]);
            if (!call.matches()) {
                Check.due("a call with its answer: " + lines[k], false, true);
                continue;
            }
            long told = valueOf(call.group(4));
            script.due(asText(call.group(2), call.group(3), named), told);
            shown.add(told);
            if (call.group(1) != null) {
                named.put(call.group(1), told);
            }
        }
    }

    private static long valueOf(String answer) {
        return answer.equals("true") ? 1 : answer.equals("false") ? 0 : Long.parseLong(answer);
    }

    /** The call as a Script takes it, with numbers in place of names. */
    private static String asText(String method, String arguments, Map<String, Long> named) {
        StringBuilder text = new StringBuilder(method);
        for (String argument : arguments.isEmpty() ? new String[0] : arguments.split(", ")) {
            Long value = named.get(argument);
            text.append(' ').append(value == null ? argument : value.toString());
        }
        return text.toString();
    }

    private void callsAreTheDocuments() {
        Set<String> face = new TreeSet<>();
        for (String method : firstGroups(Pattern.compile("public \\w+ (\\w+\\([^)]*\\));"), document)) {
            face.add("`" + method.replaceAll("(int|long) ", "") + "`");
        }
        same("calls", firstCells("### What the calls answer", "call"), face);
    }

    private void kindsAreTheDocuments() {
        List<String[]> kinds = table("### What the calls answer", "kind");
        Check.due("kinds in README.md", kinds.size(), 6);
        for (String[] kind : kinds) {
            boolean stands = Pattern.compile("[ :.]" + kind[0] + " " + kind[1] + "\\b").matcher(document).find();
            Check.due("a kind of the document: " + kind[0] + " " + kind[1], stands, true);
        }
    }

    private void answersBelowZeroAreTheDocuments() {
        Set<String> codes = new TreeSet<>(firstGroups(Pattern.compile("(?<!\\w)(-\\d+)"), document));
        same("answers below 0", firstCells("### An answer below 0", "answer"), codes);
        for (String code : codes) {
            Check.due("an example answers " + code, shown.contains(Long.valueOf(code)), true);
        }
    }

    private void classesInsideAreThere() {
        Set<String> inside = new TreeSet<>();
        for (Class<?> own : CeilingRows.class.getDeclaredClasses()) {
            inside.add(own.getSimpleName());
        }
        same("classes inside", new TreeSet<>(firstGroups(Pattern.compile("(?m)^- `(\\w+)`:"), section("## Inside"))),
                inside);
    }

    private void testsAreThere() throws IOException {
        Set<String> files = new TreeSet<>();
        Set<String> tests = new TreeSet<>();
        try (Stream<Path> paths = Files.list(TESTS)) {
            for (Path path : paths.toList()) {
                String name = path.getFileName().toString().replace(".java", "");
                files.add(name);
                if (name.endsWith("Test")) {
                    tests.add("`" + name + "`");
                }
            }
        }
        same("tests", firstCells("## Tests", "test"), tests);
        same("files of the tests", new TreeSet<>(firstGroups(Pattern.compile("`([A-Z]\\w+)`"), section("## Tests"))),
                files);
    }

    private static void same(String what, Set<String> told, Set<String> there) {
        Check.due(what + ": README.md tells " + told + ", there are " + there, told.equals(there), true);
    }

    /** The text from a heading to the next one. */
    private String section(String heading) {
        StringBuilder kept = new StringBuilder();
        boolean inside = false;
        for (String line : readme.split("\n")) {
            if (line.startsWith("#")) {
                inside = line.equals(heading);
            } else if (inside) {
                kept.append(line).append('\n');
            }
        }
        return kept.toString();
    }

    /** The rows of the table of a section whose first column has this title. */
    private List<String[]> table(String heading, String title) {
        List<String[]> rows = new ArrayList<>();
        boolean inside = false;
        for (String line : section(heading).split("\n")) {
            if (line.startsWith("| " + title + " |")) {
                inside = true;
            } else if (!line.startsWith("|")) {
                inside = false;
            } else if (inside && !line.startsWith("| ---")) {
                rows.add(line.substring(2).split(" \\| ?"));
            }
        }
        return rows;
    }

    private Set<String> firstCells(String heading, String title) {
        Set<String> cells = new TreeSet<>();
        for (String[] row : table(heading, title)) {
            cells.add(row[0]);
        }
        return cells;
    }

    private static List<String> firstGroups(Pattern pattern, String text) {
        List<String> groups = new ArrayList<>();
        for (MatchResult found : pattern.matcher(text).results().toList()) {
            groups.add(found.group(1));
        }
        return groups;
    }
}
