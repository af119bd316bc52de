/** Promise 1: each sentence that says what is so at first. */
final class NewObjectBoundaries {
    private NewObjectBoundaries() {
    }

    static void test() {
        sticks();
        mixes();
        servoSettings();
        servos();
        link();
        texts();
        Boundary.test(1, "The constants: `NONE = -1`: There is no such number.",
            () -> Checks.due("NONE", PlaneServos.NONE, -1));
        Boundary.test(1, "An object is used for at most 512 calls after it has been made",
            NewObjectBoundaries::lastCall);
    }

    private static void sticks() {
        Boundary.test(1, "A stick has a position from -100 to 100, which is 0 at first", () -> {
            for (int stick = 0; stick < 4; stick++) {
                Checks.due("position(" + stick + ")", new PlaneServos().position(stick), 0);
            }
        });
        Boundary.test(1, "an expo from 0 to 100, which is 0 at first.", () -> {
            for (int stick = 0; stick < 4; stick++) {
                Checks.due("expo(" + stick + ")", new PlaneServos().expo(stick), 0);
            }
        });
        Boundary.test(1, "It is either low or high, and it is high at first.",
            () -> Checks.due("isHigh()", new PlaneServos().isHigh(), true));
        Boundary.test(1, "A rate is 0 to 125, at first 100.", () -> {
            PlaneServos x = new PlaneServos();
            for (int turn = 0; turn < 2; turn++) {
                for (int stick = 0; stick < 4; stick++) {
                    Checks.due("rate(" + stick + "), high: " + x.isHigh(), x.rate(stick), 100);
                }
                x.switchRates();
            }
        });
        Boundary.test(1, "A trim is -25 to 25, at first 0.", () -> {
            PlaneServos x = new PlaneServos();
            for (int turn = 0; turn < 2; turn++) {
                for (int stick = 0; stick < 4; stick++) {
                    Checks.due("trim(" + stick + "), high: " + x.isHigh(), x.trim(stick), 0);
                }
                x.switchRates();
            }
        });
        Boundary.test(1, "There is a throttle cut, which is off at first.",
            () -> Checks.due("isCut()", new PlaneServos().isCut(), false));
    }

    private static void mixes() {
        Boundary.test(1, "At first there are four mixes: for each k from 0 to 3, the mix k has the source k, the servo"
            + " k, the share 100, the offset 0 and the condition 0.", () -> {
                PlaneServos x = new PlaneServos();
                Checks.due("mixes()", x.mixes(), 4);
                for (int mix = 0; mix < 4; mix++) {
                    Checks.due("mixSource(" + mix + ")", x.mixSource(mix), mix);
                    Checks.due("mixServo(" + mix + ")", x.mixServo(mix), mix);
                    Checks.due("mixValue(" + mix + "), the offset", x.mixValue(mix), 0);
                    x.move(mix, 100);
                    Checks.due("mixValue(" + mix + "), the share", x.mixValue(mix), 100);
                    Checks.due("isActive(" + mix + "), high", x.isActive(mix), true);
                    x.switchRates();
                    Checks.due("isActive(" + mix + "), low", x.isActive(mix), true);
                    x.switchRates();
                }
            });
    }

    private static void servoSettings() {
        Boundary.test(1, "A servo is reversed or not (at first not).",
            () -> eachServo("reverse", (x, servo) -> x.reverse(servo), true));
        Boundary.test(1, "a neutral from -50 to 50 (at first 0)",
            () -> eachServo("setNeutral", (x, servo) -> x.setNeutral(servo, 9), 0));
        Boundary.test(1, "a low limit from -150 to 0 (at first -100)",
            () -> eachServo("aim, far down", (x, servo) -> pushed(x, servo, -150).aim(servo), -100));
        Boundary.test(1, "a high limit from 0 to 150 (at first 100)",
            () -> eachServo("aim, far up", (x, servo) -> pushed(x, servo, 150).aim(servo), 100));
        Boundary.test(1, "a speed from 1 to 300 (at first 300)",
            () -> eachServo("setSpeed", (x, servo) -> x.setSpeed(servo, 9), 300));
        Boundary.test(1, "the mode is 0 at first.",
            () -> eachServo("setFailsafe", (x, servo) -> x.setFailsafe(servo, 1, 9), 0));
    }

    private static void eachServo(String call, Boundary.Call made, Object due) {
        for (int servo = 0; servo < 6; servo++) {
            Checks.due(call + " of the servo " + servo, made.on(new PlaneServos(), servo), due);
        }
    }

    /** Drives the servo beyond each of its limits. */
    private static PlaneServos pushed(PlaneServos x, int servo, int share) {
        x.move(0, 100);
        x.addMix(0, servo, share, 0, 0);
        x.addMix(0, servo, share, 0, 0);
        return x;
    }

    private static void servos() {
        Boundary.test(1, "a target and a position (both 0 at first)", () -> {
            eachServo("target", (x, servo) -> x.target(servo), 0);
            eachServo("servoPosition", (x, servo) -> x.servoPosition(servo), 0);
        });
        Boundary.test(1, "a wear (0 at first)", () -> eachServo("wear", (x, servo) -> x.wear(servo), 0));
    }

    private static void link() {
        Boundary.test(1, "There is a failsafe delay from 1 to 50 frames, at first 5.", () -> {
            PlaneServos x = new PlaneServos();
            x.lose(4);
            Checks.due("isFailsafe(), four frames lost", x.isFailsafe(), false);
            x.lose(1);
            Checks.due("isFailsafe(), five frames lost", x.isFailsafe(), true);
            Checks.due("setDelay(9)", x.setDelay(9), 5);
        });
        Boundary.test(1, "The battery contains 0 to 20000 units, at first 20000.",
            () -> Checks.due("battery()", new PlaneServos().battery(), 20000));
        Boundary.test(1, "Creates a radio system as described above.", () -> {
            PlaneServos x = new PlaneServos();
            Checks.due("charged()", x.charged(), 0);
            Checks.due("frames()", x.frames(), 0);
            Checks.due("lostFrames()", x.lostFrames(), 0);
            Checks.due("deadFrames()", x.deadFrames(), 0);
            Checks.due("lostInRow()", x.lostInRow(), 0);
            Checks.due("failsafes()", x.failsafes(), 0);
        });
    }

    private static void texts() {
        Boundary.test(1, "The buffer contains at most 60 characters and is empty at first.", () -> {
            Checks.due("firstError()", new PlaneServos().firstError(), 0);
            Checks.due("clearText()", new PlaneServos().clearText(), 0);
            Checks.due("append('x')", new PlaneServos().append('x'), 1);
        });
        Boundary.test(1, "At most 6 states are saved", () -> {
            Checks.due("savedStates()", new PlaneServos().savedStates(), 0);
            Checks.due("undo() throws", Boundary.thrownBy(new PlaneServos(), x -> x.undo()), Checks.STATE);
        });
        Boundary.test(1, "There are two memories, numbered 0 and 1, which are empty at first.", () -> {
            Checks.due("recall(0) throws", Boundary.thrownBy(new PlaneServos(), x -> x.recall(0)), Checks.STATE);
            Checks.due("recall(1) throws", Boundary.thrownBy(new PlaneServos(), x -> x.recall(1)), Checks.STATE);
        });
    }

    /** The dearest calls, to the last one that is promised. */
    private static void lastCall() {
        PlaneServos x = new PlaneServos();
        for (int call = 1; call <= 508; call++) {
            x.send(50);
        }
        Checks.due("the 509th call, frames()", x.frames(), 25400);
        Checks.due("the 510th call, deadFrames()", x.deadFrames(), 5400);
        Checks.due("the 511th call, undo()", x.undo(), 5);
        Checks.due("the 512th call, deadFrames()", x.deadFrames(), 5350);
    }
}
