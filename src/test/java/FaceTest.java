import java.io.IOException;
import java.lang.reflect.Constructor;
import java.lang.reflect.Field;
import java.lang.reflect.Method;
import java.lang.reflect.Modifier;
import java.nio.file.Files;
import java.nio.file.Path;
import java.util.TreeSet;

/** The public face is that of the document, call by call with what it throws, and nothing besides is visible. */
public final class FaceTest {
    public static void main(String[] args) throws IOException {
        String block = faceOf(Files.readString(Path.of("../shared/DOC.md")));
        TreeSet<String> due = new TreeSet<>();
        TreeSet<String> names = new TreeSet<>();
        for (String line : block.split("\n")) {
            String text = line.trim();
            if (text.startsWith("public ") && (text.endsWith(");") || text.contains("throws"))) {
                due.add(plain(text));
                names.add(text.substring(0, text.indexOf('(')).replaceAll(".* ", ""));
            }
        }
        Checks.due("the number of calls in the document", due.size(), 62);
        Checks.due("the face", face(), due);
        nothingElseIsVisible(names);
        Checks.finish("FaceTest");
    }

    private static String faceOf(String document) {
        int start = document.indexOf("```java");
        return document.substring(start, document.indexOf("```", start + 7));
    }

    /** Takes the names of the parameters out, so that the line can be told by reflection. */
    private static String plain(String line) {
        return line.replace("public PlaneServos", "public void PlaneServos")
            .replaceAll("(int|boolean) \\w+([,)])", "$1$2").replace(";", "");
    }

    private static TreeSet<String> face() {
        TreeSet<String> found = new TreeSet<>();
        for (Constructor<?> made : PlaneServos.class.getConstructors()) {
            found.add(text("void", "PlaneServos", made.getParameterTypes(), made.getExceptionTypes()));
        }
        for (Method call : PlaneServos.class.getDeclaredMethods()) {
            if (Modifier.isPublic(call.getModifiers())) {
                found.add(text(call.getReturnType().getName(), call.getName(), call.getParameterTypes(),
                    call.getExceptionTypes()));
            }
        }
        return found;
    }

    private static String text(String answer, String name, Class<?>[] parameters, Class<?>[] thrown) {
        StringBuilder all = new StringBuilder("public " + answer + " " + name + "(");
        for (int i = 0; i < parameters.length; i++) {
            all.append(i == 0 ? "" : ", ").append(parameters[i].getName());
        }
        all.append(")");
        for (int i = 0; i < thrown.length; i++) {
            all.append(i == 0 ? " throws " : ", ").append(thrown[i].getSimpleName());
        }
        return all.toString();
    }

    private static void nothingElseIsVisible(TreeSet<String> names) {
        Class<?> kind = PlaneServos.class;
        Checks.due("the class is public and final", kind.getModifiers(), Modifier.PUBLIC | Modifier.FINAL);
        for (Field field : kind.getDeclaredFields()) {
            boolean isConstant = field.getName().equals("NONE")
                && field.getModifiers() == (Modifier.PUBLIC | Modifier.STATIC | Modifier.FINAL);
            if (!isConstant && !Modifier.isPrivate(field.getModifiers())) {
                Checks.fail("the field " + field.getName() + " is visible");
            }
            if (Modifier.isStatic(field.getModifiers()) && !Modifier.isFinal(field.getModifiers())) {
                Checks.fail("the static field " + field.getName() + " is not final");
            }
        }
        for (Method call : kind.getDeclaredMethods()) {
            if (!Modifier.isPublic(call.getModifiers()) && !Modifier.isPrivate(call.getModifiers())) {
                Checks.fail("the method " + call.getName() + " is visible");
            }
            if (Modifier.isPrivate(call.getModifiers()) && names.contains(call.getName())) {
                Checks.fail("the private method " + call.getName() + " bears the name of a call");
            }
        }
        for (Class<?> inside : kind.getDeclaredClasses()) {
            for (Method call : inside.getDeclaredMethods()) {
                if (names.contains(call.getName())) {
                    Checks.fail(inside.getName() + "." + call.getName() + " bears the name of a call");
                }
            }
        }
    }
}
