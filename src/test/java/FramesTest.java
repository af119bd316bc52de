/** Promises 35 to 46: frames, failsafe and battery. */
public final class FramesTest {
    public static void main(String[] args) {
        sends();
        loses();
        failsafeModes();
        presetsAreLimited();
        delays();
        charges();
        emptyBattery();
        lastUnits();
        countersAndUndo();
        wrongNumbers();
        Checks.finish("FramesTest");
    }

    private static void sends() {
        PlaneServos x = new PlaneServos();
        x.move(0, 30);
        x.move(1, -40);
        x.setSpeed(1, 15);
        Checks.due("send(1)", x.send(1), 45);
        Checks.due("battery()", x.battery(), 20000 - 1 - 45);
        Checks.due("send(2)", x.send(2), 25);
        Checks.due("servoPosition(1)", x.servoPosition(1), -40);
        Checks.due("send(50)", x.send(50), 0);
        Checks.due("battery() after", x.battery(), 20000 - 53 - 70);
        Checks.due("frames()", x.frames(), 53);
        Checks.due("lostFrames()", x.lostFrames(), 0);
        Checks.due("deadFrames()", x.deadFrames(), 0);
        Checks.undoable("send(3)", x, y -> y.send(3));
        x.move(0, -100);
        Checks.undoable("send(2) with moves", x, y -> y.send(2));
    }

    private static void loses() {
        PlaneServos x = new PlaneServos();
        x.move(0, 30);
        x.setSpeed(0, 10);
        x.send(1);
        x.move(0, -90);
        Checks.due("lose(1)", x.lose(1), 10);
        Checks.due("lose(3), up to the old target", x.lose(3), 10);
        Checks.due("target(0)", x.target(0), 30);
        Checks.due("lostInRow()", x.lostInRow(), 4);
        Checks.due("isFailsafe(), before the delay", x.isFailsafe(), false);
        Checks.due("lose(1), the fifth", x.lose(1), 0);
        Checks.due("isFailsafe(), at the delay", x.isFailsafe(), true);
        Checks.due("failsafes()", x.failsafes(), 1);
        Checks.due("lose(50)", x.lose(50), 0);
        Checks.due("failsafes(), still the first", x.failsafes(), 1);
        Checks.due("lostFrames()", x.lostFrames(), 55);
        Checks.due("lostInRow() after", x.lostInRow(), 55);
        Checks.due("frames()", x.frames(), 56);
        Checks.due("battery()", x.battery(), 20000 - 56 - 30);
        x.send(1);
        Checks.due("lostInRow() after send", x.lostInRow(), 0);
        Checks.due("isFailsafe() after send", x.isFailsafe(), false);
        x.lose(5);
        Checks.due("failsafes(), the second", x.failsafes(), 2);
        Checks.undoable("lose(2)", x, y -> y.lose(2));
        x.send(1);
        Checks.undoable("lose(5) into the failsafe", x, y -> y.lose(5));
    }

    private static void failsafeModes() {
        PlaneServos x = new PlaneServos();
        for (int servo = 0; servo < 3; servo++) {
            x.setFailsafe(servo, servo, 60);
            x.setSpeed(servo, 10);
            x.move(servo, -100);
        }
        x.send(1);
        Checks.due("lose(4)", x.lose(4), 120);
        Checks.due("lose(1), servo 2 is off", x.lose(1), 20);
        Checks.due("servoPosition(0), hold", x.servoPosition(0), -60);
        Checks.due("target(0), hold", x.target(0), -100);
        Checks.due("servoPosition(1), preset", x.servoPosition(1), -40);
        Checks.due("target(1), preset", x.target(1), 60);
        Checks.due("servoPosition(2), off", x.servoPosition(2), -50);
        Checks.due("target(2), off", x.target(2), -100);
        x.setFailsafe(1, 0, 0);
        x.lose(1);
        Checks.due("target(1), now held", x.target(1), 60);
        x.setFailsafe(0, 1, -20);
        x.lose(10);
        Checks.due("servoPosition(0), now preset", x.servoPosition(0), -20);
        Checks.due("send(1) ends the failsafe", x.send(1), 30);
        Checks.due("servoPosition(2), on again", x.servoPosition(2), -60);
    }

    private static void presetsAreLimited() {
        PlaneServos x = new PlaneServos();
        x.setFailsafe(0, 1, 150);
        x.setFailsafe(1, 1, -150);
        x.setFailsafe(2, 1, 100);
        x.setLimits(1, -35, 20);
        x.lose(5);
        Checks.due("target(0)", x.target(0), 100);
        Checks.due("target(1)", x.target(1), -35);
        Checks.due("target(2)", x.target(2), 100);
        x.setLimits(0, -100, 30);
        Checks.due("target(0), by frames alone", x.target(0), 100);
        x.lose(1);
        Checks.due("target(0), new limit", x.target(0), 30);
        Checks.due("servoPosition(0)", x.servoPosition(0), 30);
    }

    private static void delays() {
        PlaneServos x = new PlaneServos();
        Checks.due("setDelay(50)", x.setDelay(50), 5);
        Checks.due("setDelay(1)", x.setDelay(1), 50);
        x.send(1);
        Checks.due("isFailsafe(), delay 1, received", x.isFailsafe(), false);
        x.lose(1);
        Checks.due("isFailsafe(), delay 1", x.isFailsafe(), true);
        x.setDelay(2);
        Checks.due("isFailsafe(), only at the next frame", x.isFailsafe(), true);
        x.lose(1);
        Checks.due("failsafes(), it went on", x.failsafes(), 1);
        x.setDelay(10);
        x.lose(1);
        Checks.due("isFailsafe(), delay 10", x.isFailsafe(), false);
        x.setDelay(3);
        Checks.due("isFailsafe(), delay 3, no frame", x.isFailsafe(), false);
        x.lose(1);
        Checks.due("isFailsafe(), delay 3", x.isFailsafe(), true);
        Checks.due("failsafes(), a second one", x.failsafes(), 2);
        Checks.undoable("setDelay(3)", x, y -> y.setDelay(3));
        PlaneServos z = new PlaneServos();
        z.setDelay(9);
        z.undo();
        Checks.due("the delay after undo", z.setDelay(1), 5);
    }

    private static void charges() {
        PlaneServos x = new PlaneServos();
        Checks.due("charge(), full", x.charge(), 0);
        Checks.due("savedStates()", x.savedStates(), 1);
        x.move(0, 100);
        x.send(50);
        Checks.due("charge()", x.charge(), 150);
        Checks.due("battery()", x.battery(), 20000);
        x.lose(7);
        Checks.due("charge() again", x.charge(), 7);
        Checks.due("charged()", x.charged(), 157);
        x.lose(1);
        Checks.undoable("charge()", x, y -> y.charge());
        Checks.due("charged() after", x.charged(), 158);
        Checks.quiet("charged()", x, y -> y.charged());
        Checks.quiet("battery()", x, y -> y.battery());
    }

    private static void emptyBattery() {
        PlaneServos x = Radio.withBattery(2);
        int framesBefore = x.frames();
        Checks.due("send(2), the last units", x.send(2), 0);
        Checks.due("battery(), empty", x.battery(), 0);
        Checks.due("deadFrames(), none yet", x.deadFrames(), 0);
        Checks.due("lostFrames(), none yet", x.lostFrames(), 0);
        x.move(0, 50);
        Checks.due("send(3), dead", x.send(3), 0);
        Checks.due("lose(1), dead", x.lose(1), 0);
        Checks.due("deadFrames()", x.deadFrames(), 4);
        Checks.due("lostFrames()", x.lostFrames(), 4);
        Checks.due("lostInRow()", x.lostInRow(), 4);
        Checks.due("frames()", x.frames(), framesBefore + 6);
        Checks.due("target(0)", x.target(0), 0);
        x.send(1);
        Checks.due("isFailsafe(), dead", x.isFailsafe(), true);
        Checks.due("battery(), still empty", x.battery(), 0);
        Checks.due("charge()", x.charge(), 20000);
        Checks.due("send(1)", x.send(1), 300);
        Checks.due("deadFrames() after", x.deadFrames(), 5);
        PlaneServos z = Radio.withBattery(0);
        z.lose(1);
        Checks.undoable("lose(1), dead", z, y -> y.lose(1));
        Checks.due("deadFrames(), counted once more", z.deadFrames(), 2);
        z.undo();
        Checks.due("deadFrames() after undo()", z.deadFrames(), 1);
        Checks.undoable("lose(1)", x, y -> y.lose(1));
    }

    /** The frame takes its unit before the servos move, and the servos share what is left. */
    private static void lastUnits() {
        PlaneServos x = Radio.withBattery(71);
        x.setSpeed(0, 40);
        x.move(0, 50);
        Checks.due("send(1)", x.send(1), 70);
        Checks.due("battery()", x.battery(), 0);
        Checks.due("servoPosition(0), by its speed", x.servoPosition(0), 40);
        Checks.due("servoPosition(1), by the battery", x.servoPosition(1), 30);
        Checks.due("servoPosition(2), nothing left", x.servoPosition(2), 0);
        Checks.due("target(2)", x.target(2), 50);
        Checks.due("lostFrames()", x.lostFrames(), 0);
        PlaneServos z = Radio.withBattery(1);
        z.move(0, -50);
        Checks.due("send(1), one unit", z.send(1), 0);
        Checks.due("target(5), one unit", z.target(5), -50);
        Checks.due("lostFrames(), one unit", z.lostFrames(), 0);
        PlaneServos w = Radio.withBattery(21);
        w.move(0, -50);
        Checks.due("send(1), downwards", w.send(1), 20);
        Checks.due("servoPosition(0), downwards", w.servoPosition(0), -20);
    }

    private static void countersAndUndo() {
        PlaneServos x = new PlaneServos();
        x.send(2);
        x.lose(6);
        Checks.due("frames()", x.frames(), 8);
        x.undo();
        Checks.due("frames() after undo", x.frames(), 2);
        Checks.due("lostFrames() after undo", x.lostFrames(), 0);
        Checks.due("lostInRow() after undo", x.lostInRow(), 0);
        Checks.due("isFailsafe() after undo", x.isFailsafe(), false);
        Checks.due("failsafes() after undo", x.failsafes(), 0);
        Checks.due("battery() after undo", x.battery(), 19998);
        Checks.quiet("frames()", x, y -> y.frames());
        Checks.quiet("lostFrames()", x, y -> y.lostFrames());
        Checks.quiet("deadFrames()", x, y -> y.deadFrames());
        Checks.quiet("lostInRow()", x, y -> y.lostInRow());
        Checks.quiet("isFailsafe()", x, y -> y.isFailsafe());
        Checks.quiet("failsafes()", x, y -> y.failsafes());
    }

    private static void wrongNumbers() {
        PlaneServos x = new PlaneServos();
        for (int number : new int[] {0, 51, -1, Integer.MIN_VALUE, Integer.MAX_VALUE}) {
            Checks.refused("send(" + number + ")", x, Checks.ARGUMENT, y -> y.send(number));
            Checks.refused("lose(" + number + ")", x, Checks.ARGUMENT, y -> y.lose(number));
            Checks.refused("setDelay(" + number + ")", x, Checks.ARGUMENT, y -> y.setDelay(number));
        }
    }
}
