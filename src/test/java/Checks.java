import java.util.function.Consumer;

/** What the tests share: each prints what is not as due, and ends with exit code 1 if there was something. */
final class Checks {
    static final Class<? extends RuntimeException> INDEX = IndexOutOfBoundsException.class;
    static final Class<? extends RuntimeException> ARGUMENT = IllegalArgumentException.class;
    static final Class<? extends RuntimeException> STATE = IllegalStateException.class;

    private static int wrong = 0;
    private static String about = "";

    private Checks() {
    }

    /** What is printed ahead of each fault from here on. */
    static void about(String what) {
        about = what;
    }

    static void fail(String what) {
        wrong++;
        System.out.println(about + what);
    }

    static void due(String call, Object got, Object want) {
        if (!want.equals(got)) {
            fail(call + " answered " + got + ", due is " + want);
        }
    }

    /** The call has to throw exactly this exception, and to change nothing. */
    static void refused(String call, PlaneServos x, Class<? extends RuntimeException> kind,
            Consumer<PlaneServos> made) {
        long before = x.digest();
        int savedBefore = x.savedStates();
        int errorBefore = x.firstError();
        Class<?> thrown = null;
        try {
            made.accept(x);
        } catch (RuntimeException e) {
            thrown = e.getClass();
        }
        if (thrown != kind) {
            fail(call + " threw " + thrown + ", due is " + kind);
        }
        due(call + ": digest() after it", x.digest(), before);
        due(call + ": savedStates() after it", x.savedStates(), savedBefore);
        due(call + ": firstError() after it", x.firstError(), errorBefore);
    }

    /** The call has to save exactly the state before it, and undo() has to bring that back. */
    static void undoable(String call, PlaneServos x, Consumer<PlaneServos> made) {
        long before = x.digest();
        int savedBefore = x.savedStates();
        made.accept(x);
        due(call + ": savedStates() after it", x.savedStates(), Math.min(savedBefore + 1, 6));
        x.undo();
        due(call + ": digest() after undo()", x.digest(), before);
        made.accept(x);
    }

    /** The call may change nothing, not even the saved states. */
    static void quiet(String call, PlaneServos x, Consumer<PlaneServos> made) {
        long before = x.digest();
        int savedBefore = x.savedStates();
        made.accept(x);
        due(call + ": digest() after it", x.digest(), before);
        due(call + ": savedStates() after it", x.savedStates(), savedBefore);
    }

    static void type(PlaneServos x, String text) {
        for (int i = 0; i < text.length(); i++) {
            x.append(text.charAt(i));
        }
    }

    /** Empties the buffer, types a program and runs it. */
    static int runText(PlaneServos x, String text) {
        x.clearText();
        type(x, text);
        return x.run();
    }

    static void finish(String test) {
        System.out.println(test + ": " + (wrong == 0 ? "all answers are as due" : wrong + " answers are not as due"));
        if (wrong != 0) {
            System.exit(1);
        }
    }
}
