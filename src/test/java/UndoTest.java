import java.util.function.Consumer;
import java.util.function.Function;

/** Promises 58 to 61: undo and memories; and that just the calls that are marked so are undoable. */
public final class UndoTest {
    public static void main(String[] args) {
        undoes();
        discardsTheOldest();
        restoresEverything();
        stores();
        recalls();
        memoriesAreNoState();
        wrongMemories();
        Checks.finish("UndoTest");
    }

    private static void undoes() {
        PlaneServos x = new PlaneServos();
        Checks.due("savedStates()", x.savedStates(), 0);
        Checks.refused("undo(), none saved", x, Checks.STATE, y -> y.undo());
        x.move(0, 1);
        x.move(0, 2);
        x.move(0, 2);
        Checks.due("savedStates(), three", x.savedStates(), 3);
        Checks.quiet("savedStates()", x, y -> y.savedStates());
        Checks.due("undo()", x.undo(), 2);
        Checks.due("position(0), nothing had changed", x.position(0), 2);
        Checks.due("undo() again", x.undo(), 1);
        Checks.due("position(0)", x.position(0), 1);
        x.move(1, 9);
        Checks.due("undo() of the new one", x.undo(), 1);
        Checks.due("position(1)", x.position(1), 0);
        Checks.due("undo() of the first", x.undo(), 0);
        Checks.due("position(0), new", x.position(0), 0);
        Checks.refused("undo(), all undone", x, Checks.STATE, y -> y.undo());
    }

    private static void discardsTheOldest() {
        PlaneServos x = new PlaneServos();
        for (int turn = 0; turn < 3; turn++) {
            for (int i = 1; i <= 10 + turn; i++) {
                x.move(2, i);
                Checks.due("savedStates()", x.savedStates(), Math.min(i, 6));
            }
            for (int left = 5; left >= 0; left--) {
                Checks.due("undo()", x.undo(), left);
                Checks.due("position(2)", x.position(2), 4 + turn + left);
            }
            Checks.refused("undo(), six undone", x, Checks.STATE, y -> y.undo());
        }
    }

    /** A radio in which nothing is as in a new one, and the battery is nearly empty. */
    private static PlaneServos odd() {
        PlaneServos x = new PlaneServos();
        for (int stick = 0; stick < 4; stick++) {
            x.setTrim(stick, 3 + stick);
            x.setRate(stick, 50 + stick);
            x.setExpo(stick, 20 + stick);
            x.move(stick, 90 - stick);
        }
        for (int servo = 0; servo < 6; servo++) {
            x.reverse(servo);
            x.setNeutral(servo, servo + 1);
            x.setLimits(servo, -100 - servo, 120 + servo);
            x.setSpeed(servo, 40 + servo);
            x.setFailsafe(servo, 1 + servo % 2, 70 + servo);
        }
        x.setDelay(3);
        x.send(2);
        x.lose(4);
        x.charge();
        return x;
    }

    private static void restoresEverything() {
        undone("move", y -> y.move(0, 0), y -> y.position(0));
        undone("setTrim", y -> y.setTrim(1, 0), y -> y.trim(1));
        undone("setRate", y -> y.setRate(2, 0), y -> y.rate(2));
        undone("setExpo", y -> y.setExpo(3, 0), y -> y.expo(3));
        undone("switchRates", y -> y.switchRates(), y -> y.isHigh());
        undone("cutThrottle", y -> y.cutThrottle(true), y -> y.isCut());
        undone("addMix", y -> y.addMix(0, 5, 1, 0, 1), y -> y.mixes());
        undone("removeMix", y -> y.removeMix(0), y -> y.mixSource(0));
        undone("clearMixes", y -> y.clearMixes(2), y -> y.mixServo(2));
        undone("elevons", y -> y.elevons(0, 1, 100), y -> y.mixes());
        undone("reverse", y -> y.reverse(5), y -> y.reverse(5));
        undone("setNeutral", y -> y.setNeutral(4, 0), y -> y.setNeutral(4, 0));
        undone("setLimits", y -> y.setLimits(3, 0, 0), y -> y.setLimits(3, 0, 0));
        undone("setSpeed", y -> y.setSpeed(2, 1), y -> y.setSpeed(2, 1));
        undone("setFailsafe", y -> y.setFailsafe(1, 0, 0), y -> y.setFailsafe(1, 0, 0));
        undone("the preset of setFailsafe", y -> y.setFailsafe(0, 1, -9), y -> preset(y));
        undone("send", y -> y.send(1), y -> y.isFailsafe());
        undone("lose", y -> y.lose(1), y -> y.lostInRow());
        undone("setDelay", y -> y.setDelay(50), y -> y.setDelay(50));
        undone("charge", y -> y.charge(), y -> y.charged());
        undone("run", y -> Checks.runText(y, "s0=1;r;f5"), y -> y.frames());
        undone("recall", y -> y.recall(0), y -> y.frames());
    }

    private static int preset(PlaneServos x) {
        x.lose(50);
        return x.target(0);
    }

    /** What the probe answers must be the same on a radio on which the call was made and undone. */
    private static void undone(String call, Consumer<PlaneServos> made,
            Function<PlaneServos, Object> probe) {
        PlaneServos untouched = odd();
        PlaneServos x = odd();
        x.store(0);
        x.move(0, 44);
        untouched.move(0, 44);
        x.lose(3);
        untouched.lose(3);
        made.accept(x);
        x.undo();
        Checks.due(call + ", undone: what is seen", Look.at(x), Look.at(untouched));
        Checks.due(call + ", undone: the probe", probe.apply(x), probe.apply(untouched));
        x.switchRates();
        untouched.switchRates();
        Checks.due(call + ", undone: the other rates", Look.at(x), Look.at(untouched));
    }

    private static void stores() {
        PlaneServos x = new PlaneServos();
        x.elevons(0, 1, 5);
        Checks.quiet("store(0)", x, y -> Checks.due("store(0)", y.store(0), 8));
        x.clearMixes(0);
        Checks.due("store(1)", x.store(1), 5);
        Checks.due("recall(0)", x.recall(0), 8);
        Checks.due("recall(1)", x.recall(1), 5);
        x.move(0, 77);
        Checks.due("store(0), in place of", x.store(0), 5);
        x.move(0, 11);
        x.recall(0);
        Checks.due("position(0)", x.position(0), 77);
        x.recall(1);
        Checks.due("position(0) of the other memory", x.position(0), 0);
    }

    private static void recalls() {
        PlaneServos x = new PlaneServos();
        Checks.refused("recall(0), empty", x, Checks.STATE, y -> y.recall(0));
        x.move(0, 10);
        x.send(1);
        x.store(1);
        String stored = Look.at(x);
        x.move(0, 20);
        x.lose(9);
        Checks.undoable("recall(1)", x, y -> Checks.due("recall(1)", y.recall(1), 4));
        Checks.due("what is seen after recall(1)", Look.at(x), stored);
        x.move(0, -20);
        x.send(9);
        x.recall(1);
        Checks.due("what is seen after another recall(1)", Look.at(x), stored);
        Checks.refused("recall(0), still empty", x, Checks.STATE, y -> y.recall(0));
    }

    private static void memoriesAreNoState() {
        PlaneServos x = new PlaneServos();
        x.move(0, 10);
        x.store(0);
        x.undo();
        Checks.due("recall(0) after undo()", x.recall(0), 4);
        Checks.due("position(0)", x.position(0), 10);
        x.undo();
        Checks.due("position(0) after undo() of recall(0)", x.position(0), 0);
        x.recall(0);
        Checks.due("position(0), recalled again", x.position(0), 10);
    }

    private static void wrongMemories() {
        PlaneServos x = new PlaneServos();
        for (int memory : new int[] {-1, 2, Integer.MIN_VALUE, Integer.MAX_VALUE}) {
            Checks.refused("store(" + memory + ")", x, Checks.ARGUMENT, y -> y.store(memory));
            Checks.refused("recall(" + memory + ")", x, Checks.ARGUMENT, y -> y.recall(memory));
        }
    }
}
