import java.util.function.Consumer;
import java.util.function.Supplier;

/**
 * The tests of the sentences that name a boundary case. Each has the number of its promise and quotes its sentence,
 * which has to stand in the document, in that promise or ahead of all promises.
 */
final class Boundary {
    /** A call with a number in the place that a sentence speaks of. */
    interface Call {
        Object on(PlaneServos x, int number);
    }

    private static final String NOTHING_CHANGES = "A call that throws an exception changes nothing.";
    private static final String FIRST_LISTED =
        "If more than one exception applies to a call, the one that is listed first in its throws clause is thrown.";
    private static final String EVEN_IF_NOTHING_CHANGES = "saves the state from before the call if it does not throw"
        + " an exception, even if nothing changes.";

    private static final Document DOCUMENT = Document.read();

    private Boundary() {
    }

    static void test(int promise, String sentence, Runnable body) {
        Checks.about("promise " + promise + ", \"" + sentence + "\": ");
        if (!DOCUMENT.quote(promise, sentence)) {
            Checks.fail("the document has no such sentence there");
        }
        try {
            body.run();
        } catch (RuntimeException e) {
            Checks.fail("a call that is not refused threw " + e);
        }
        Checks.about("");
    }

    /** The least and the greatest are taken, and so are those next to them; each is what the next call replaces. */
    static void takes(int promise, String sentence, int least, int most, int first, Call set) {
        test(promise, sentence, () -> {
            PlaneServos x = new PlaneServos();
            int[] numbers = {least, most, least + 1, most - 1, least};
            int before = first;
            for (int number : numbers) {
                Checks.due("the one before " + number, set.on(x, number), before);
                before = number;
            }
        });
    }

    /** One below the least and one above the greatest are refused, and so is what lies far off. */
    static void refuses(int promise, String sentence, Class<? extends RuntimeException> kind, int least, int most,
            Call call) {
        int[] numbers = {least - 1, most + 1, Integer.MIN_VALUE, Integer.MAX_VALUE};
        test(promise, sentence, () -> {
            for (Radio from : Radio.values()) {
                for (int number : numbers) {
                    Checks.due(number + ", on " + from + ", throws", thrownBy(from.make(), x -> call.on(x, number)),
                        kind);
                }
            }
        });
        test(promise, NOTHING_CHANGES, () -> {
            for (Radio from : Radio.values()) {
                for (int number : numbers) {
                    changesNothing(number + ", refused, ", from, x -> call.on(x, number));
                }
            }
        });
    }

    /** A call that is refused because of the state that the radio is in. */
    static void refuses(int promise, String sentence, Class<? extends RuntimeException> kind,
            Supplier<PlaneServos> from, Consumer<PlaneServos> call) {
        test(promise, sentence, () -> Checks.due("the call throws", thrownBy(from.get(), call), kind));
        test(promise, NOTHING_CHANGES, () -> alike("refused", () -> after(from, call), from));
    }

    /** Where two exceptions would be due, this one is thrown. */
    static void throwsFirst(int promise, Class<? extends RuntimeException> kind, String call,
            Supplier<PlaneServos> from, Consumer<PlaneServos> made) {
        test(promise, FIRST_LISTED, () -> {
            Checks.due(call + " throws", thrownBy(from.get(), made), kind);
            alike(call, () -> after(from, made), from);
        });
    }

    /**
     * The call saves the state once, also when there is no room, and undo() makes as if it had not been made.
     * One of the radios at least has to take the call.
     */
    static void undoable(int promise, String sentence, Consumer<PlaneServos> call) {
        test(promise, sentence, () -> {
            int taken = 0;
            for (Radio from : Radio.values()) {
                if (thrownBy(from.make(), call) == null) {
                    savesOnce(from::make, call, x -> x.move(0, 99));
                    taken++;
                }
            }
            Checks.due("a radio takes the call", taken > 0, true);
        });
    }

    /** The call changes nothing on this radio, and saves the state for all that. */
    static void savesEvenSo(int promise, Supplier<PlaneServos> from, Consumer<PlaneServos> call) {
        test(promise, EVEN_IF_NOTHING_CHANGES, () -> {
            PlaneServos x = from.get();
            String before = Look.at(x);
            call.accept(x);
            Checks.due("what is seen after the call", Look.at(x), before);
            savesOnce(from, call, y -> y.move(0, 99));
        });
    }

    /** The other call is one that is known to save the state once. */
    static void savesOnce(Supplier<PlaneServos> from, Consumer<PlaneServos> call, Consumer<PlaneServos> other) {
        PlaneServos x = from.get();
        int saved = x.savedStates();
        call.accept(x);
        Checks.due("savedStates() after the call", x.savedStates(), Math.min(6, saved + 1));
        Checks.due("undo()", x.undo(), Math.min(5, saved));
        alike("undone", () -> after(() -> after(from, call), PlaneServos::undo),
            () -> after(() -> after(from, other), PlaneServos::undo));
    }

    /** Neither the state nor a saved state, the buffer or a memory is changed by the call. */
    static void changesNothing(int promise, String sentence, Consumer<PlaneServos> call) {
        test(promise, sentence, () -> {
            for (Radio from : Radio.values()) {
                changesNothing("", from, call);
            }
        });
    }

    private static void changesNothing(String call, Radio from, Consumer<PlaneServos> made) {
        String got = Afterlife.of(() -> after(from::make, made));
        Checks.due(call + "what differs later, on " + from, Afterlife.difference(got, from.afterlife()), "");
    }

    static void alike(String call, Supplier<PlaneServos> one, Supplier<PlaneServos> other) {
        Checks.due(call + ": what differs later", Afterlife.difference(Afterlife.of(one), Afterlife.of(other)), "");
    }

    static Class<?> thrownBy(PlaneServos x, Consumer<PlaneServos> call) {
        try {
            call.accept(x);
            return null;
        } catch (RuntimeException e) {
            return e.getClass();
        }
    }

    private static PlaneServos after(Supplier<PlaneServos> from, Consumer<PlaneServos> call) {
        PlaneServos x = from.get();
        thrownBy(x, call);
        return x;
    }

    static void allIsQuoted() {
        for (String line : DOCUMENT.unquoted()) {
            Checks.fail("no test quotes " + line);
        }
    }
}
