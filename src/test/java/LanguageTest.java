import java.io.IOException;
import java.lang.reflect.Field;
import java.lang.reflect.Modifier;
import java.nio.file.Files;
import java.nio.file.Path;
import java.util.Set;
import java.util.regex.Matcher;
import java.util.regex.Pattern;

/** Looks through the source for what ../shared/LANGUAGE.md does not leave. It finds the plain faults, not all. */
public final class LanguageTest {
    private static final Set<String> LIBRARY = Set.of("Math.abs", "Math.min", "Math.max");
    private static final Set<String> THROWN =
        Set.of("IllegalStateException", "IllegalArgumentException", "IndexOutOfBoundsException");

    public static void main(String[] args) throws IOException {
        String source = Files.readString(Path.of("src/main/java/PlaneServos.java"));
        for (int i = 0; i < source.length(); i++) {
            if (source.charAt(i) > 126) {
                Checks.fail("the source has a sign over 126 at " + i);
            }
        }
        String code = source.replaceAll("(?s)/\\*.*?\\*/", " ").replaceAll("//[^\n]*", " ");
        wordsDue(code.replaceAll("\"[^\"\n]*\"", "\"\""));
        libraryDue(code);
        throwsDue(code);
        methodsDue(code);
        classDue(PlaneServos.class);
        for (Class<?> inside : PlaneServos.class.getDeclaredClasses()) {
            int kind = inside.getModifiers();
            if (!Modifier.isStatic(kind) || Modifier.isPublic(kind) || Modifier.isProtected(kind)) {
                Checks.fail(inside.getName() + " is not static, or visible");
            }
            classDue(inside);
        }
        Checks.finish("LanguageTest");
    }

    private static void wordsDue(String code) {
        String[] wrong = {"\\bpackage\\b", "\\bimport\\b", "\\btry\\b", "\\bcatch\\b", "\\bfinally\\b", "\\bassert\\b",
            "\\bsynchronized\\b", "\\bprotected\\b", "\\bnative\\b", "\\bvar\\b", "\\binstanceof\\b", "->", "::",
            "static \\{", "\\bThread\\b", "\\bSystem\\b", "\\bString\\b", "\\bequals\\(", "\\bhashCode\\(",
            "\\btoString\\(", "\\bfloat\\b", "while \\(true\\)", "for \\(;;\\)", "\\w+Exact\\("};
        for (String word : wrong) {
            if (Pattern.compile(word).matcher(code).find()) {
                Checks.fail("the source uses " + word);
            }
        }
        Matcher classes = Pattern.compile("\\bclass \\w+").matcher(code);
        int count = 0;
        while (classes.find()) {
            count++;
        }
        if (count > 12) {
            Checks.fail("the source has " + count + " classes");
        }
    }

    /** A class has some twenty fields, and its static ones are constants. */
    private static void classDue(Class<?> kind) {
        int fields = 0;
        for (Field field : kind.getDeclaredFields()) {
            boolean isStatic = Modifier.isStatic(field.getModifiers());
            fields += isStatic ? 0 : 1;
            if (isStatic && !(Modifier.isFinal(field.getModifiers()) && field.getType().isPrimitive())) {
                Checks.fail(kind.getName() + "." + field.getName() + " is static, but no constant");
            }
        }
        if (fields > 20) {
            Checks.fail(kind.getName() + " has " + fields + " fields");
        }
    }

    private static void libraryDue(String code) {
        Matcher calls = Pattern.compile("\\b[A-Z][a-z]\\w*\\.\\w+").matcher(code);
        while (calls.find()) {
            if (!LIBRARY.contains(calls.group())) {
                Checks.fail("the source uses " + calls.group());
            }
        }
    }

    private static void throwsDue(String code) {
        Matcher thrown = Pattern.compile("\\bthrow\\b([^;]*);").matcher(code);
        Pattern form = Pattern.compile(" new (\\w+)\\(\"[^\"]*\"\\)");
        while (thrown.find()) {
            Matcher parts = form.matcher(thrown.group(1));
            if (!parts.matches() || !THROWN.contains(parts.group(1))) {
                Checks.fail("the source throws" + thrown.group(1));
            }
        }
    }

    /** A method has at most seven parameters and some sixty lines. */
    private static void methodsDue(String code) {
        String[] lines = code.split("\n");
        int start = -1;
        for (int i = 0; i < lines.length; i++) {
            if (lines[i].matches(" {4}( {4})?\\w.*\\{") && !lines[i].contains(" class ")) {
                start = i;
                String head = lines[i].replaceAll("throws.*", "");
                if (head.split(",").length > 7) {
                    Checks.fail("more than seven parameters: " + head.trim());
                }
            } else if (lines[i].matches(" {4}( {4})?\\}") && start >= 0) {
                if (i - start > 60) {
                    Checks.fail("more than sixty lines: " + lines[start].trim());
                }
                start = -1;
            }
        }
    }
}
