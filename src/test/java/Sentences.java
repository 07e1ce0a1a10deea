import java.io.IOException;
import java.nio.file.Files;
import java.nio.file.Path;
import java.util.LinkedHashSet;
import java.util.Set;

/** Which sentences of the document the tests name: each must stand there, and none may be left without a test. */
final class Sentences {
    private static final Set<String> QUOTES = new LinkedHashSet<>();

    private Sentences() {
    }

    static void quote(String sentence) {
        QUOTES.add(sentence);
    }

    static void checkAgainst(Path document) throws IOException {
        String text = promisedText(Files.readString(document));
        boolean[] quoted = new boolean[text.length()];
        for (String sentence : QUOTES) {
            Check.due("stands in the document: " + sentence, markAll(text, sentence, quoted), true);
        }
        StringBuilder left = new StringBuilder();
        for (int at = 0; at < text.length(); at++) {
            boolean counts = Character.isLetterOrDigit(text.charAt(at));
            left.append(counts && !quoted[at] ? text.charAt(at) : ' ');
        }
        String unquoted = left.toString().trim().replaceAll("\\s+", " ");
        Check.due("words of the document without a test: [" + unquoted + "]", unquoted.isEmpty(), true);
    }

    private static boolean markAll(String text, String sentence, boolean[] quoted) {
        boolean found = false;
        for (int at = text.indexOf(sentence); at >= 0; at = text.indexOf(sentence, at + 1)) {
            found = true;
            for (int k = 0; k < sentence.length(); k++) {
                quoted[at + k] = true;
            }
        }
        return found;
    }

    /** The sentence on 512 calls, the terms, and the promises without their headings and declarations. */
    private static String promisedText(String document) {
        StringBuilder kept = new StringBuilder();
        String section = "";
        for (String line : document.split("\n")) {
            if (line.startsWith("## ")) {
                section = line.substring(3);
            } else if (section.equals("Terms") || section.startsWith("Promise ") || line.contains("512 calls")) {
                String words = line.replaceAll("```\\w*", "").replaceAll("^`[^`]*`:", "");
                kept.append(words).append(' ');
            }
        }
        return kept.toString().replaceAll("\\s+", " ");
    }
}
