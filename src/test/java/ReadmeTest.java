import java.io.IOException;
import java.lang.reflect.Method;
import java.lang.reflect.Modifier;
import java.net.URL;
import java.net.URLClassLoader;
import java.nio.file.Files;
import java.nio.file.Path;
import java.util.List;
import java.util.TreeSet;
import java.util.regex.Matcher;
import java.util.regex.Pattern;
import java.util.stream.Collectors;
import java.util.stream.Stream;
import javax.tools.JavaCompiler;
import javax.tools.ToolProvider;

/** What README.md says holds: its examples answer as it says, and its tables name what there is. */
public final class ReadmeTest {
    private static final Pattern BLOCK = Pattern.compile("(?s)```java\n(.*?)```");
    private static final Pattern ANSWERED = Pattern.compile("(radio\\.\\w+\\(.*\\)); +// answers ([^:]+)(:.*)?");
    private static final Pattern THROWN = Pattern.compile("(radio\\.\\w+\\(.*\\)); +// throws (\\w+)(:.*)?");
    private static final String[] EXCEPTIONS =
        {"IndexOutOfBoundsException", "IllegalArgumentException", "IllegalStateException"};

    public static void main(String[] args) throws Exception {
        String page = Files.readString(Path.of("README.md"));
        examplesDue(page);
        callsDue(page);
        exceptionsDue(page);
        testsDue(page);
        Checks.finish("ReadmeTest");
    }

    private static void examplesDue(String page) throws Exception {
        StringBuilder body = new StringBuilder();
        int looked = 0;
        Matcher block = BLOCK.matcher(page);
        while (block.find()) {
            for (String line : block.group(1).split("\n")) {
                String checked = checkedLine(line);
                looked += checked.equals(line) ? 0 : 1;
                body.append(checked).append('\n');
            }
        }
        Checks.due("README.md has examples with answers", looked > 20, true);
        run("public final class ReadmeExample {\n    public static void run() {\n" + body + "    }\n}\n");
    }

    /** A line that tells an answer or an exception becomes one that looks whether it is so. */
    private static String checkedLine(String line) {
        Matcher answered = ANSWERED.matcher(line);
        if (answered.matches()) {
            String call = answered.group(1);
            return "ReadmeTest.answerDue(\"" + call + "\", " + call + ", " + answered.group(2) + ");";
        }
        Matcher thrown = THROWN.matcher(line);
        if (thrown.matches()) {
            String call = thrown.group(1);
            return "try { " + call + "; ReadmeTest.wrong(\"" + call + " threw nothing\"); } catch ("
                + thrown.group(2) + " e) { }";
        }
        if (line.contains("// answers") || line.contains("// throws")) {
            Checks.fail("this line of README.md can't be looked at: " + line);
        }
        return line;
    }

    public static void answerDue(String call, Object got, Object want) {
        Checks.due("README.md: " + call, got, want);
    }

    public static void wrong(String what) {
        Checks.fail("README.md: " + what);
    }

    private static void run(String source) throws Exception {
        JavaCompiler compiler = ToolProvider.getSystemJavaCompiler();
        if (compiler == null) {
            Checks.fail("there is no compiler for the examples of README.md");
            return;
        }
        Path place = Files.createTempDirectory("readme");
        try {
            compileAndRun(compiler, place, source);
        } finally {
            delete(place);
        }
    }

    private static void compileAndRun(JavaCompiler compiler, Path place, String source) throws Exception {
        Path file = place.resolve("ReadmeExample.java");
        Files.writeString(file, source);
        String classes = System.getProperty("java.class.path");
        if (compiler.run(null, null, null, "-cp", classes, "-d", place.toString(), file.toString()) != 0) {
            Checks.fail("the examples of README.md do not compile");
            return;
        }
        try (URLClassLoader loader = new URLClassLoader(new URL[] {place.toUri().toURL()})) {
            loader.loadClass("ReadmeExample").getMethod("run").invoke(null);
        }
    }

    private static void delete(Path place) throws IOException {
        try (Stream<Path> files = Files.list(place)) {
            for (Path file : files.collect(Collectors.toList())) {
                Files.delete(file);
            }
        }
        Files.delete(place);
    }

    /** Each call stands in the table with the names that the document gives to its parameters. */
    private static void callsDue(String page) throws IOException {
        String document = Files.readString(Path.of("../shared/DOC.md"));
        TreeSet<String> due = new TreeSet<>();
        Matcher promised = Pattern.compile("(?m)^    public \\w+ (\\w+\\(.*?\\)).*;$").matcher(document);
        while (promised.find()) {
            due.add(promised.group(1).replaceAll("\\b(int|boolean) ", ""));
        }
        String table = page.substring(page.indexOf("| about | calls |"));
        Checks.due("the calls in README.md", inTicks(table.substring(0, table.indexOf("\n\n"))), due);
    }

    private static void exceptionsDue(String page) {
        for (String exception : EXCEPTIONS) {
            int start = page.indexOf("\n| `" + exception + "` |");
            if (start < 0) {
                Checks.fail("README.md does not tell when " + exception + " is thrown");
                continue;
            }
            String row = page.substring(start + 1, page.indexOf('\n', start + 1));
            String[] columns = row.split("\\|");
            Checks.due("the calls that throw " + exception, inTicks(columns[columns.length - 1]), throwing(exception));
        }
    }

    private static TreeSet<String> throwing(String exception) {
        TreeSet<String> names = new TreeSet<>();
        for (Method call : PlaneServos.class.getDeclaredMethods()) {
            if (Modifier.isPublic(call.getModifiers())) {
                boolean isThrown = Stream.of(call.getExceptionTypes())
                    .anyMatch(kind -> kind.getSimpleName().equals(exception));
                if (isThrown) {
                    names.add(call.getName());
                }
            }
        }
        return names;
    }

    private static TreeSet<String> inTicks(String text) {
        TreeSet<String> found = new TreeSet<>();
        Matcher quoted = Pattern.compile("`([^`]*)`").matcher(text);
        while (quoted.find()) {
            found.add(quoted.group(1));
        }
        return found;
    }

    private static void testsDue(String page) throws IOException {
        TreeSet<String> named = new TreeSet<>();
        Matcher row = Pattern.compile("(?m)^\\| (\\w+Test) \\|").matcher(page);
        while (row.find()) {
            named.add(row.group(1));
        }
        try (Stream<Path> files = Files.list(Path.of("src/test/java"))) {
            List<String> there = files.map(file -> file.getFileName().toString())
                .filter(name -> name.endsWith("Test.java"))
                .map(name -> name.substring(0, name.length() - ".java".length()))
                .collect(Collectors.toList());
            Checks.due("the tests in README.md", named, new TreeSet<>(there));
        }
    }
}
