import java.io.IOException;
import java.lang.reflect.Constructor;
import java.lang.reflect.Field;
import java.lang.reflect.Method;
import java.lang.reflect.Modifier;
import java.nio.file.Files;
import java.nio.file.Path;
import java.util.Arrays;
import java.util.Set;
import java.util.TreeSet;
import java.util.regex.Matcher;
import java.util.regex.Pattern;

/** The face of the document, and the rules of LANGUAGE.md that a look at the class or its source can tell. */
public final class LanguageTest {
    private static final Set<String> FACE = new TreeSet<>(Arrays.asList(
            "int task(int, int)", "int resource()", "int uses(int, int, long)", "int ceiling(int)",
            "int step(int, int, int, long)", "int rank(int)", "int holder(int)", "long blocking(int)",
            "int lock(int, int)", "boolean ring()", "int lower(int, int)", "int plain(long)"));
    private static final Pattern OUTSIDE = Pattern.compile(
            "\\b(throw|throws|try|catch|finally|synchronized|assert|volatile|native|Object|Random|Thread|Exception"
            + "|hashCode|protected|package)\\b|->|::|\\w+Exact\\b");

    public static void main(String[] args) throws IOException {
        faceIsTheDocuments();
        innerClassesAreStatic();
        sourceKeepsToTheLanguage("src/main/java/CeilingRows.java");
        Check.finish();
    }

    private static void faceIsTheDocuments() {
        Class<?> face = CeilingRows.class;
        Check.due("public and final", Modifier.isPublic(face.getModifiers()) && Modifier.isFinal(face.getModifiers()),
                true);
        Set<String> shown = new TreeSet<>();
        Set<String> names = new TreeSet<>();
        for (Method method : face.getDeclaredMethods()) {
            if (Modifier.isPublic(method.getModifiers())) {
                shown.add(describe(method));
                names.add(method.getName());
            }
        }
        Check.due("the methods of the face: " + shown, shown.equals(FACE), true);
        for (Method method : face.getDeclaredMethods()) {
            boolean asDue = Modifier.isPublic(method.getModifiers())
                    || (Modifier.isPrivate(method.getModifiers()) && !names.contains(method.getName()));
            Check.due("public, or private with a name of its own: " + method.getName(), asDue, true);
        }
        for (Field field : face.getDeclaredFields()) {
            Check.due("private: " + field.getName(), Modifier.isPrivate(field.getModifiers()), true);
        }
        Constructor<?>[] constructors = face.getDeclaredConstructors();
        boolean one = constructors.length == 1 && constructors[0].getParameterCount() == 0
                && Modifier.isPublic(constructors[0].getModifiers());
        Check.due("one constructor, public and without parameters", one, true);
    }

    private static String describe(Method method) {
        StringBuilder text = new StringBuilder();
        text.append(method.getReturnType().getName()).append(' ').append(method.getName()).append('(');
        Class<?>[] types = method.getParameterTypes();
        for (int k = 0; k < types.length; k++) {
            text.append(k == 0 ? "" : ", ").append(types[k].getName());
        }
        return text.append(')').toString();
    }

    private static void innerClassesAreStatic() {
        for (Class<?> inner : CeilingRows.class.getDeclaredClasses()) {
            Check.due("static: " + inner.getName(), Modifier.isStatic(inner.getModifiers()), true);
            Check.due("not public: " + inner.getName(), Modifier.isPublic(inner.getModifiers()), false);
            for (Field field : inner.getDeclaredFields()) {
                Check.due("no static state: " + field.getName(), Modifier.isStatic(field.getModifiers()), false);
            }
        }
    }

    private static void sourceKeepsToTheLanguage(String file) throws IOException {
        String source = Files.readString(Path.of(file));
        String code = source.replaceAll("(?s)/\\*.*?\\*/", "").replaceAll("//[^\n]*", "");
        Matcher outside = OUTSIDE.matcher(code);
        while (outside.find()) {
            Check.due("outside the language: " + outside.group(), 1, 0);
        }
        Matcher imports = Pattern.compile("(?m)^import (.*);").matcher(code);
        while (imports.find()) {
            Check.due("import " + imports.group(1), imports.group(1).equals("java.util.Arrays"), true);
        }
    }
}
