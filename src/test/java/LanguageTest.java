import java.io.IOException;
import java.lang.reflect.Constructor;
import java.lang.reflect.Executable;
import java.lang.reflect.Field;
import java.lang.reflect.Method;
import java.lang.reflect.Modifier;
import java.nio.file.Files;
import java.nio.file.Path;
import java.util.ArrayList;
import java.util.List;
import java.util.Set;
import java.util.TreeSet;
import java.util.regex.Matcher;
import java.util.regex.Pattern;

/**
 * The face of the document, and the rules of LANGUAGE.md that a look at the class or its source can tell. The class
 * needs less than LANGUAGE.md leaves it, so the lists of types, words, loops and calls are shorter than the ones there.
 */
public final class LanguageTest {
    private static final Pattern OUTSIDE = Pattern.compile(
            "\\b(throw|throws|try|catch|finally|synchronized|assert|volatile|native|Object|Random|Thread|Exception"
            + "|equals|hashCode|toString|protected|package|while|do|char|float|double)\\b|->|::|\\w+Exact\\b"
            + "|new \\w+\\([^()]*\\) \\{|static \\{");
    private static final Pattern LIBRARY = Pattern.compile(
            "Arrays\\.fill|Math\\.(max|min)|Integer\\.bitCount");
    private static final Pattern COUNTED_LOOP = Pattern.compile(
            "for \\(int (\\w+) = [^;]+; \\1 (<|<=|>=) [^;]+; \\1(\\+\\+|--)\\) \\{");
    private static final Pattern METHOD = Pattern.compile(
            "(?ms)^( {4}| {8})(?!if|for|switch)\\w[^\n;=]*\\) \\{\n.*?^\\1\\}");
    private static final Set<Class<?>> VALUES = Set.of(int.class, long.class, boolean.class);
    private static final Set<Class<?>> ROWS = Set.of(int[].class, int[][].class, boolean[].class);
    private static final int MOST_PARAMETERS = 7;
    private static final int MOST_LINES = 60;
    private static final int MOST_CLASSES = 12;
    private static final int MOST_FIELDS = 20;

    public static void main(String[] args) throws IOException {
        String source = Files.readString(Path.of("src/main/java/CeilingRows.java"));
        String code = source.replaceAll("(?s)/\\*.*?\\*/", "").replaceAll("//[^\n]*", "");
        faceIsTheDocuments(code, Files.readString(Path.of("../shared/DOC.md")));
        noOtherMemberIsSeen();
        List<Class<?>> all = new ArrayList<>(List.of(CeilingRows.class.getDeclaredClasses()));
        innerClassesAreStatic(all);
        all.add(CeilingRows.class);
        classesAreSmall(all);
        fieldsKeepToTheLanguage(all);
        wordsKeepToTheLanguage(code);
        loopsAreCounted(code);
        methodsAreShort(code, all);
        onlyConstructorsMakeObjects(code, all);
        Check.finish();
    }

    /** Every declaration of the document stands in the source as it is, and nothing else there is public. */
    private static void faceIsTheDocuments(String code, String document) {
        Matcher face = Pattern.compile("public (.*)[;{]").matcher(document);
        int declared = 0;
        while (face.find()) {
            declared++;
            String declaration = "public " + face.group(1).trim() + " {";
            Check.due("in the source: " + declaration, code.contains(declaration), true);
        }
        Check.due("declarations of the document (the class, a constructor, the methods)", declared, 14);
        Check.due("public members in the source", code.split("\\bpublic\\b", -1).length - 1, declared);
    }

    private static void noOtherMemberIsSeen() {
        Class<?> face = CeilingRows.class;
        Check.due("public and final", Modifier.isPublic(face.getModifiers()) && Modifier.isFinal(face.getModifiers()),
                true);
        Set<String> names = new TreeSet<>();
        for (Method method : face.getDeclaredMethods()) {
            if (Modifier.isPublic(method.getModifiers())) {
                names.add(method.getName());
            }
        }
        Check.due("the names of the face: " + names, names.size(), 12);
        for (Method method : face.getDeclaredMethods()) {
            boolean asDue = Modifier.isPublic(method.getModifiers())
                    || (Modifier.isPrivate(method.getModifiers()) && !names.contains(method.getName()));
            Check.due("public, or private with a name of its own: " + method.getName(), asDue, true);
        }
        for (Field field : face.getDeclaredFields()) {
            Check.due("private: " + field.getName(), Modifier.isPrivate(field.getModifiers()), true);
        }
        Constructor<?>[] constructors = face.getDeclaredConstructors();
        boolean one = constructors.length == 1 && constructors[0].getParameterCount() == 0
                && Modifier.isPublic(constructors[0].getModifiers());
        Check.due("one constructor, public and without parameters", one, true);
    }

    private static void innerClassesAreStatic(List<Class<?>> inner) {
        for (Class<?> own : inner) {
            Check.due("static: " + own.getName(), Modifier.isStatic(own.getModifiers()), true);
            Check.due("private: " + own.getName(), Modifier.isPrivate(own.getModifiers()), true);
            Check.due("classes inside " + own.getName(), own.getDeclaredClasses().length, 0);
        }
    }

    private static void classesAreSmall(List<Class<?>> all) {
        Check.due("so few classes: " + all.size(), all.size() <= MOST_CLASSES, true);
        for (Class<?> own : all) {
            List<Executable> members = new ArrayList<>(List.of(own.getDeclaredMethods()));
            members.addAll(List.of(own.getDeclaredConstructors()));
            for (Executable member : members) {
                Check.due("so few parameters: " + member, member.getParameterCount() <= MOST_PARAMETERS, true);
            }
            int fields = 0;
            for (Field field : own.getDeclaredFields()) {
                fields += Modifier.isStatic(field.getModifiers()) ? 0 : 1;
            }
            Check.due("so few fields: " + own.getName(), fields <= MOST_FIELDS, true);
        }
    }

    private static void fieldsKeepToTheLanguage(List<Class<?>> all) {
        for (Class<?> own : all) {
            for (Field field : own.getDeclaredFields()) {
                Class<?> type = field.getType();
                boolean plain = VALUES.contains(type);
                boolean known = plain || ROWS.contains(type) || all.contains(type);
                Check.due("of a type of the language: " + field, known, true);
                boolean constant = plain && Modifier.isFinal(field.getModifiers());
                Check.due("no static state: " + field, !Modifier.isStatic(field.getModifiers()) || constant, true);
            }
        }
    }

    private static void wordsKeepToTheLanguage(String code) {
        Matcher outside = OUTSIDE.matcher(code);
        while (outside.find()) {
            Check.due("outside the language: " + outside.group(), 1, 0);
        }
        Matcher imports = Pattern.compile("(?m)^import (.*);").matcher(code);
        while (imports.find()) {
            Check.due("import " + imports.group(1), imports.group(1).equals("java.util.Arrays"), true);
        }
        Matcher library = Pattern.compile("\\b[A-Z]\\w*\\.\\w+(?=\\()").matcher(code);
        while (library.find()) {
            Check.due("of the library: " + library.group(), LIBRARY.matcher(library.group()).matches(), true);
        }
    }

    private static void loopsAreCounted(String code) {
        Matcher loop = Pattern.compile("\\bfor\\b.*").matcher(code);
        while (loop.find()) {
            Check.due("counted: " + loop.group(), COUNTED_LOOP.matcher(loop.group()).matches(), true);
        }
    }

    /** A method's first line ends with its parameters and a brace, its last one has a brace at the same depth. */
    private static void methodsAreShort(String code, List<Class<?>> all) {
        Matcher method = METHOD.matcher(code);
        int found = 0;
        while (method.find()) {
            found++;
            int lines = method.group().split("\n").length;
            Check.due("so few lines: " + method.group().split("\n")[0].trim(), lines <= MOST_LINES, true);
        }
        int declared = 0;
        for (Class<?> own : all) {
            declared += own.getDeclaredMethods().length;
        }
        Check.due("all methods are found in the source, and the constructors", found > declared, true);
    }

    /** What stands to the left of each new object or row is a final field, and those only constructors can fill. */
    private static void onlyConstructorsMakeObjects(String code, List<Class<?>> all) {
        Set<String> finals = new TreeSet<>();
        for (Class<?> own : all) {
            for (Field field : own.getDeclaredFields()) {
                if (Modifier.isFinal(field.getModifiers())) {
                    finals.add(field.getName());
                }
            }
        }
        Matcher made = Pattern.compile("(?m)^(.*)\\bnew\\b").matcher(code);
        while (made.find()) {
            String[] words = made.group(1).trim().split(" ");
            boolean filled = words.length > 1 && words[words.length - 1].equals("=")
                    && finals.contains(words[words.length - 2]);
            Check.due("fills a final field: " + made.group(), filled, true);
        }
    }
}
