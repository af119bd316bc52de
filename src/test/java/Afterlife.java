import java.util.function.Consumer;
import java.util.function.Supplier;

/**
 * What an object answers to later calls, as one text that leaves out nothing that a caller can find out: the state,
 * the buffer, each saved state and each memory. Every line comes from an object of its own, which is made anew.
 */
final class Afterlife {
    private final Supplier<PlaneServos> made;
    private final StringBuilder told = new StringBuilder();

    private Afterlife(Supplier<PlaneServos> made) {
        this.made = made;
    }

    /** What later calls tell of the state alone. */
    static String ofState(Supplier<PlaneServos> made) {
        Afterlife life = new Afterlife(made);
        life.state();
        return life.told.toString();
    }

    static String of(Supplier<PlaneServos> made) {
        Afterlife life = new Afterlife(made);
        life.state();
        life.line("saved", x -> life.tell(x.savedStates()));
        life.line("buffer", life::buffer);
        life.line("run", life::run);
        for (int undone = 1; undone <= 7; undone++) {
            int times = undone;
            life.line("undone " + times, x -> life.undone(x, times));
        }
        for (int memory = 0; memory < 2; memory++) {
            int from = memory;
            life.line("recalled " + from, x -> life.recalled(x, from));
        }
        return life.told.toString();
    }

    /** The first line in which two such texts differ, as the first one has it and as the second one has it. */
    static String difference(String one, String other) {
        String[] lines = one.split("\n");
        String[] others = other.split("\n");
        for (int i = 0; i < Math.min(lines.length, others.length); i++) {
            if (!lines[i].equals(others[i])) {
                return lines[i] + "\n  due is " + others[i];
            }
        }
        return "";
    }

    private void state() {
        line("seen", x -> tell(Look.at(x)));
        line("settings", this::settings);
    }

    private void line(String name, Consumer<PlaneServos> probe) {
        told.append(name).append(':');
        probe.accept(made.get());
        told.append('\n');
    }

    private void tell(Object answer) {
        told.append(' ').append(answer);
    }

    private void tellAnswer(Supplier<Object> call) {
        Object answer;
        try {
            answer = call.get();
        } catch (RuntimeException e) {
            answer = e.getClass().getSimpleName();
        }
        tell(answer);
    }

    private void glance(PlaneServos x) {
        tell(x.digest());
        tell(x.isFailsafe());
        for (int servo = 0; servo < 6; servo++) {
            tell(x.reason(servo));
        }
    }

    /** Finds out, one after the other, what only other settings or other frames show. */
    private void settings(PlaneServos x) {
        glance(x);
        for (int turn = 0; turn < 4; turn++) {
            for (int stick = 0; stick < 4; stick++) {
                x.move(stick, turn < 2 ? 100 : -100);
            }
            tell(x.switchRates());
            tell(x.digest());
        }
        tell(x.lose(1));
        tell(x.lose(50));
        glance(x);
        limits(x, 150);
        limits(x, -150);
        for (int servo = 0; servo < 6; servo++) {
            tell(x.setNeutral(servo, 0));
            tell(x.setSpeed(servo, 300));
            tell(x.reverse(servo));
        }
        tell(x.cutThrottle(false));
        tell(x.setDelay(1));
        glance(x);
    }

    private void limits(PlaneServos x, int preset) {
        for (int servo = 0; servo < 6; servo++) {
            tell(x.setFailsafe(servo, 1, preset));
        }
        x.lose(1);
        for (int servo = 0; servo < 6; servo++) {
            tell(x.target(servo));
        }
    }

    private void buffer(PlaneServos x) {
        tell(x.firstError());
        for (int i = 0; i < 61; i++) {
            int code = i == 0 ? '5' : ';';
            tellAnswer(() -> x.append(code));
        }
        tell(x.firstError());
        tell(x.clearText());
    }

    private void run(PlaneServos x) {
        tellAnswer(x::run);
        glance(x);
        tell(x.savedStates());
        tell(x.clearText());
    }

    private void undone(PlaneServos x, int times) {
        for (int i = 0; i < times; i++) {
            tellAnswer(x::undo);
        }
        settings(x);
    }

    private void recalled(PlaneServos x, int memory) {
        tellAnswer(() -> x.recall(memory));
        settings(x);
    }
}
