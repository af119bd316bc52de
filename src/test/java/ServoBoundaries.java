/** Promises 24 to 34, sentence by sentence. */
final class ServoBoundaries {
    private static final String SERVO = "`servo`: 0 to 5";
    private static final String NO_SERVO = "Throws `IndexOutOfBoundsException` if there is no such servo";

    private ServoBoundaries() {
    }

    static void test() {
        wrongServos();
        rightServos();
        terms();
        neutrals();
        limits();
        speeds();
        modesAndPresets();
        twoExceptions();
        demands();
        aims();
        excesses();
        byFramesOnly();
        savedAndUnchanged();
    }

    private static void wrongServos() {
        noSuchServo(24, (x, servo) -> x.reverse(servo));
        noSuchServo(25, (x, servo) -> x.setNeutral(servo, 1));
        noSuchServo(26, (x, servo) -> x.setLimits(servo, -1, 1));
        noSuchServo(27, (x, servo) -> x.setSpeed(servo, 1));
        noSuchServo(28, (x, servo) -> x.setFailsafe(servo, 1, 1));
        noSuchServo(29, (x, servo) -> x.demand(servo));
        noSuchServo(30, (x, servo) -> x.aim(servo));
        noSuchServo(31, (x, servo) -> x.excess(servo));
        noSuchServo(32, (x, servo) -> x.target(servo));
        noSuchServo(33, (x, servo) -> x.servoPosition(servo));
        noSuchServo(34, (x, servo) -> x.wear(servo));
    }

    private static void noSuchServo(int promise, Boundary.Call call) {
        Boundary.refuses(promise, NO_SERVO, Checks.INDEX, 0, 5, call);
    }

    /** Each number of a servo, the least and the greatest too, reaches that servo and no other. */
    private static void rightServos() {
        reaches(24, (x, servo) -> x.reverse(servo), (x, servo) -> x.reverse(servo), false, true);
        reaches(25, (x, servo) -> x.setNeutral(servo, 7), (x, servo) -> x.aim(servo), 7, 0);
        reaches(26, (x, servo) -> x.setLimits(servo, -7, 7), (x, servo) -> x.setLimits(servo, 0, 0), 14, 200);
        reaches(27, (x, servo) -> x.setSpeed(servo, 7), (x, servo) -> x.setSpeed(servo, 1), 7, 300);
        reaches(28, (x, servo) -> x.setFailsafe(servo, 2, 7), (x, servo) -> x.setFailsafe(servo, 1, 1), 2, 0);
        reaches(29, (x, servo) -> driven(x, servo), (x, servo) -> x.demand(servo), 7, 0);
        reaches(30, (x, servo) -> driven(x, servo), (x, servo) -> x.aim(servo), 7, 0);
        reaches(31, (x, servo) -> driven(x, servo) + x.setLimits(servo, 0, 0), (x, servo) -> x.excess(servo), 7, 0);
        reaches(32, (x, servo) -> driven(x, servo) + x.send(1), (x, servo) -> x.target(servo), 7, 0);
        reaches(33, (x, servo) -> driven(x, servo) + x.send(1), (x, servo) -> x.servoPosition(servo), 7, 0);
        reaches(34, (x, servo) -> driven(x, servo) + x.send(1), (x, servo) -> x.wear(servo), 7, 0);
    }

    private static int driven(PlaneServos x, int servo) {
        return x.addMix(3, servo, 1, 7, 0);
    }

    private static void reaches(int promise, Boundary.Call set, Boundary.Call read, Object due, Object dueElsewhere) {
        Boundary.test(promise, SERVO, () -> {
            for (int servo = 0; servo < 6; servo++) {
                PlaneServos x = new PlaneServos();
                set.on(x, servo);
                for (int other = 0; other < 6; other++) {
                    Checks.due("servo " + servo + " set, servo " + other, read.on(x, other),
                        other == servo ? due : dueElsewhere);
                }
            }
        });
    }

    private static void terms() {
        Boundary.test(33, "There are six servos, numbered from 0.", () -> {
            for (int servo = 0; servo < 6; servo++) {
                Checks.due("servoPosition(" + servo + ")", new PlaneServos().servoPosition(servo), 0);
            }
        });
        Boundary.test(33, "\"There is no such servo\" means that the number is not 0 to 5.", () -> {
            for (int number = -3; number < 10; number++) {
                int servo = number;
                Checks.due("servoPosition(" + servo + ") throws", Boundary.thrownBy(new PlaneServos(),
                    x -> x.servoPosition(servo)) == Checks.INDEX, servo < 0 || servo > 5);
            }
        });
        Boundary.test(24, "A servo is reversed or not", () -> {
            PlaneServos x = new PlaneServos();
            Checks.due("reverse(5)", x.reverse(5), true);
            Checks.due("reverse(5) again", x.reverse(5), false);
            Checks.due("reverse(5) a third time", x.reverse(5), true);
        });
    }

    private static void neutrals() {
        Boundary.takes(25, "`neutral`: -50 to 50", -50, 50, 0, (x, neutral) -> x.setNeutral(1, neutral));
        Boundary.refuses(25, "Throws `IllegalArgumentException` if neutral is out of range", Checks.ARGUMENT, -50, 50,
            (x, neutral) -> x.setNeutral(1, neutral));
        Boundary.test(30, "It has a neutral from -50 to 50", () -> {
            PlaneServos x = new PlaneServos();
            x.setNeutral(5, 50);
            Checks.due("aim(5), the greatest", x.aim(5), 50);
            x.setNeutral(5, -50);
            Checks.due("aim(5), the least", x.aim(5), -50);
        });
    }

    private static void limits() {
        String wrong = "Throws `IllegalArgumentException` if low or high is out of range";
        Boundary.takes(26, "`low`: -150 to 0", -150, 0, -100, (x, low) -> 100 - x.setLimits(1, low, 100));
        Boundary.takes(26, "`high`: 0 to 150", 0, 150, 100, (x, high) -> x.setLimits(1, -100, high) - 100);
        Boundary.refuses(26, wrong, Checks.ARGUMENT, -150, 0, (x, low) -> x.setLimits(1, low, 100));
        Boundary.refuses(26, wrong, Checks.ARGUMENT, 0, 150, (x, high) -> x.setLimits(1, -100, high));
        Boundary.test(26, "Returns the previous high limit minus the previous low limit.", () -> {
            PlaneServos x = new PlaneServos();
            x.setLimits(0, -150, 150);
            Checks.due("setLimits, the widest before", x.setLimits(0, 0, 0), 300);
            Checks.due("setLimits, the narrowest before", x.setLimits(0, -150, 0), 0);
            Checks.due("setLimits, nothing above before", x.setLimits(0, 0, 150), 150);
            Checks.due("setLimits, nothing below before", x.setLimits(0, 0, 0), 150);
        });
        Boundary.test(30, "a low limit from -150 to 0", () -> {
            Checks.due("aim, low -150", pushed(-150, 150, -100).aim(5), -150);
            Checks.due("aim, low 0", pushed(0, 150, -100).aim(5), 0);
        });
        Boundary.test(30, "a high limit from 0 to 150", () -> {
            Checks.due("aim, high 150", pushed(-150, 150, 100).aim(5), 150);
            Checks.due("aim, high 0", pushed(-150, 0, 100).aim(5), 0);
        });
    }

    /** The servo 5 has these limits, and a demand that is three times the position. */
    private static PlaneServos pushed(int low, int high, int position) {
        PlaneServos x = new PlaneServos();
        x.addMix(1, 5, 150, 0, 0);
        x.addMix(1, 5, 150, 0, 0);
        x.setLimits(5, low, high);
        x.move(1, position);
        return x;
    }

    private static void speeds() {
        Boundary.takes(27, "`speed`: 1 to 300", 1, 300, 300, (x, speed) -> x.setSpeed(1, speed));
        Boundary.refuses(27, "Throws `IllegalArgumentException` if speed is out of range", Checks.ARGUMENT, 1, 300,
            (x, speed) -> x.setSpeed(1, speed));
        Boundary.test(33, "a speed from 1 to 300", () -> {
            PlaneServos x = pushed(-150, 150, -100);
            x.setSpeed(5, 1);
            x.send(1);
            Checks.due("servoPosition(5), the speed 1", x.servoPosition(5), -1);
            x.setSpeed(5, 300);
            x.send(1);
            Checks.due("servoPosition(5), down", x.servoPosition(5), -150);
            x.move(1, 100);
            x.send(1);
            Checks.due("servoPosition(5), the speed 300", x.servoPosition(5), 150);
            x.setSpeed(5, 299);
            x.move(1, -100);
            x.send(1);
            Checks.due("servoPosition(5), the speed 299", x.servoPosition(5), -149);
        });
    }

    private static void modesAndPresets() {
        String wrong = "Throws `IllegalArgumentException` if mode or preset is out of range";
        Boundary.takes(28, "`mode`: 0 to 2", 0, 2, 0, (x, mode) -> x.setFailsafe(1, mode, 5));
        Boundary.refuses(28, wrong, Checks.ARGUMENT, 0, 2, (x, mode) -> x.setFailsafe(1, mode, 5));
        Boundary.test(28, "`preset`: -150 to 150", () -> {
            for (int preset : new int[] {-150, -149, 0, 149, 150}) {
                Checks.due("setFailsafe, preset " + preset, new PlaneServos().setFailsafe(1, 1, preset), 0);
                Checks.due("target, preset " + preset, failsafeAt(1, preset).target(5), preset);
            }
        });
        Boundary.refuses(28, wrong, Checks.ARGUMENT, -150, 150, (x, preset) -> x.setFailsafe(1, 1, preset));
        Boundary.refuses(28, wrong, Checks.ARGUMENT, -150, 150, (x, preset) -> x.setFailsafe(1, 0, preset));
        Boundary.refuses(28, wrong, Checks.ARGUMENT, -150, 150, (x, preset) -> x.setFailsafe(1, 2, preset));
        // A call of setFailsafe() sets the preset with the mode, so that the first one is never seen.
        Boundary.test(32, "A preset is -150 to 150, at first 0.", () -> {
            Checks.due("target, the least", failsafeAt(1, -150).target(5), -150);
            Checks.due("target, the greatest", failsafeAt(1, 150).target(5), 150);
        });
        Boundary.test(33, "The failsafe modes are 0 (hold), 1 (preset) and 2 (off)", () -> {
            Checks.due("servoPosition, hold", failsafeAt(0, -20).servoPosition(5), 60);
            Checks.due("servoPosition, preset", failsafeAt(1, -20).servoPosition(5), 40);
            Checks.due("servoPosition, off", failsafeAt(2, -20).servoPosition(5), 50);
        });
    }

    /** The servo 5 is on its way to 150, by 10 a frame, when five frames are lost: at 50 before the last of them. */
    private static PlaneServos failsafeAt(int mode, int preset) {
        PlaneServos x = pushed(-150, 150, 100);
        x.setSpeed(5, 10);
        x.setFailsafe(5, mode, preset);
        x.send(1);
        x.lose(5);
        return x;
    }

    private static void twoExceptions() {
        for (Radio from : Radio.values()) {
            for (int servo : new int[] {-1, 6}) {
                Boundary.throwsFirst(25, Checks.INDEX, "setNeutral(" + servo + ", 51)", from::make,
                    x -> x.setNeutral(servo, 51));
                Boundary.throwsFirst(25, Checks.INDEX, "setNeutral(" + servo + ", -51)", from::make,
                    x -> x.setNeutral(servo, -51));
                Boundary.throwsFirst(26, Checks.INDEX, "setLimits(" + servo + ", 1, 0)", from::make,
                    x -> x.setLimits(servo, 1, 0));
                Boundary.throwsFirst(26, Checks.INDEX, "setLimits(" + servo + ", 0, 151)", from::make,
                    x -> x.setLimits(servo, 0, 151));
                Boundary.throwsFirst(27, Checks.INDEX, "setSpeed(" + servo + ", 0)", from::make,
                    x -> x.setSpeed(servo, 0));
                Boundary.throwsFirst(27, Checks.INDEX, "setSpeed(" + servo + ", 301)", from::make,
                    x -> x.setSpeed(servo, 301));
                Boundary.throwsFirst(28, Checks.INDEX, "setFailsafe(" + servo + ", 3, 0)", from::make,
                    x -> x.setFailsafe(servo, 3, 0));
                Boundary.throwsFirst(28, Checks.INDEX, "setFailsafe(" + servo + ", 0, -151)", from::make,
                    x -> x.setFailsafe(servo, 0, -151));
            }
        }
    }

    private static void demands() {
        Boundary.test(29, "If this sum is less than -300, the demand is -300", () -> {
            Checks.due("demand, the sum -299", summed(-1, 1).demand(5), -299);
            Checks.due("demand, the sum -300", summed(-1, 0).demand(5), -300);
            Checks.due("demand, the sum -301", summed(-1, -1).demand(5), -300);
            Checks.due("demand, the sum -400", summed(-1, -100).demand(5), -300);
        });
        Boundary.test(29, "if it is greater than 300, the demand is 300.", () -> {
            Checks.due("demand, the sum 299", summed(1, -1).demand(5), 299);
            Checks.due("demand, the sum 300", summed(1, 0).demand(5), 300);
            Checks.due("demand, the sum 301", summed(1, 1).demand(5), 300);
            Checks.due("demand, the sum 400", summed(1, 100).demand(5), 300);
        });
        Boundary.test(29, "Returns the demand, -300 to 300.", () -> {
            PlaneServos x = summed(1, 100);
            x.addMix(2, 5, -100, -50, 0);
            x.addMix(2, 5, -50, 0, 0);
            Checks.due("demand, 400 and then less", x.demand(5), 200);
            PlaneServos y = summed(-1, -100);
            y.addMix(2, 5, -100, 50, 0);
            Checks.due("demand, -400 and then more", y.demand(5), -250);
        });
        Boundary.test(29, "The demand of a servo is the sum of (value of the source) * share / 100 + offset over its"
            + " active mixes (with one division for each mix).", () -> {
                for (int position : new int[] {-1, 1}) {
                    PlaneServos x = new PlaneServos();
                    x.move(1, position);
                    x.addMix(1, 5, 50, 0, 0);
                    x.addMix(1, 5, 50, 0, 0);
                    Checks.due("demand, two halves", x.demand(5), 0);
                    x.addMix(1, 5, 100, 10, 1);
                    Checks.due("demand, one mix is not active", x.demand(5), 0);
                    x.clearMixes(5);
                    Checks.due("demand, no mix", x.demand(5), 0);
                }
            });
    }

    /** The sum for the servo 5 is 300 times the sign, and the position of the stick 2 besides. */
    private static PlaneServos summed(int sign, int position) {
        PlaneServos x = new PlaneServos();
        x.move(1, 100 * sign);
        x.addMix(1, 5, 100, 50 * sign, 0);
        x.addMix(1, 5, 100, 50 * sign, 0);
        x.move(2, position);
        x.addMix(2, 5, 100, 0, 0);
        return x;
    }

    private static void aims() {
        Boundary.test(30, "The aim is the raw aim, but the low limit if the raw aim is less than that, and the high"
            + " limit if the raw aim is greater than that.", () -> {
                int[] positions = {-21, -20, -19, 0, 29, 30, 31};
                int[] due = {-20, -20, -19, 0, 29, 30, 30};
                for (int i = 0; i < positions.length; i++) {
                    PlaneServos x = new PlaneServos();
                    x.setLimits(1, -20, 30);
                    x.move(1, positions[i]);
                    Checks.due("aim, the raw aim " + positions[i], x.aim(1), due[i]);
                }
            });
        Boundary.test(30, "Returns the aim, from its low limit to its high limit.", () -> {
            PlaneServos x = new PlaneServos();
            x.setNeutral(1, 50);
            x.setLimits(1, -20, 30);
            Checks.due("aim, the neutral is beyond the limit", x.aim(1), 30);
            x.setLimits(1, 0, 0);
            Checks.due("aim, no room at all", x.aim(1), 0);
        });
        Boundary.test(31, "The raw aim of a servo is its neutral plus its demand, or its neutral minus its demand if"
            + " the servo is reversed.", () -> {
                PlaneServos x = summed(1, 100);
                x.setLimits(5, 0, 0);
                x.setNeutral(5, 50);
                Checks.due("the greatest raw aim", x.excess(5), 350);
                x.reverse(5);
                Checks.due("the raw aim, reversed", x.excess(5), -250);
                x.setNeutral(5, -50);
                Checks.due("the least raw aim", x.excess(5), -350);
                x.reverse(5);
                Checks.due("the raw aim, not reversed", x.excess(5), 250);
            });
    }

    private static void excesses() {
        Boundary.test(31, "Returns the raw aim minus the aim.", () -> {
            int[] positions = {-22, -21, -20, -19, 29, 30, 31, 32};
            int[] due = {-2, -1, 0, 0, 0, 0, 1, 2};
            for (int i = 0; i < positions.length; i++) {
                PlaneServos x = new PlaneServos();
                x.setLimits(1, -20, 30);
                x.move(1, positions[i]);
                Checks.due("excess, the raw aim " + positions[i], x.excess(1), due[i]);
            }
        });
    }

    private static void byFramesOnly() {
        String sentence = "Demands, aims and commands always follow from the present settings and stick positions;"
            + " targets and positions only change by frames.";
        Boundary.test(29, sentence, () -> {
            PlaneServos x = new PlaneServos();
            x.move(0, 40);
            Checks.due("demand(0), no frame", x.demand(0), 40);
            Checks.due("aim(0), no frame", x.aim(0), 40);
            Checks.due("command(0), no frame", x.command(0), 40);
            x.lose(9);
            Checks.due("aim(0), lost frames", x.aim(0), 40);
        });
        Boundary.test(32, sentence, () -> {
            PlaneServos x = changedAfterAFrame();
            Checks.due("target(0)", x.target(0), 40);
            x.send(1);
            Checks.due("target(0), a frame later", x.target(0), -10);
        });
        Boundary.test(33, sentence, () -> {
            PlaneServos x = changedAfterAFrame();
            Checks.due("servoPosition(0)", x.servoPosition(0), 40);
            x.send(1);
            Checks.due("servoPosition(0), a frame later", x.servoPosition(0), -10);
        });
    }

    private static PlaneServos changedAfterAFrame() {
        PlaneServos x = new PlaneServos();
        x.move(0, 40);
        x.send(1);
        x.move(0, 90);
        x.reverse(0);
        x.setNeutral(0, -50);
        x.setLimits(0, -10, 10);
        x.setFailsafe(0, 1, -99);
        x.setDelay(1);
        x.charge();
        return x;
    }

    private static void savedAndUnchanged() {
        Boundary.undoable(24, "Reverses a servo, or ends its reversal. Undoable.", x -> x.reverse(1));
        Boundary.undoable(25, "Sets the neutral of a servo. Undoable.", x -> x.setNeutral(1, 3));
        Boundary.undoable(26, "Sets both limits of a servo. Undoable.", x -> x.setLimits(1, -3, 3));
        Boundary.undoable(27, "Sets the speed of a servo. Undoable.", x -> x.setSpeed(1, 3));
        Boundary.undoable(28, "Sets the failsafe mode and the preset of a servo. Undoable.",
            x -> x.setFailsafe(1, 1, 3));
        Boundary.savesEvenSo(25, Radio.BUSY::make, x -> x.setNeutral(1, 25));
        Boundary.savesEvenSo(26, Radio.BUSY::make, x -> x.setLimits(1, -130, 120));
        Boundary.savesEvenSo(27, Radio.BUSY::make, x -> x.setSpeed(1, 12));
        Boundary.savesEvenSo(28, Radio.BUSY::make, x -> x.setFailsafe(1, 1, 60));
        Boundary.savesEvenSo(25, Radio.FRESH::make, x -> x.setNeutral(1, 0));
        Boundary.savesEvenSo(26, Radio.FRESH::make, x -> x.setLimits(1, -100, 100));
        Boundary.savesEvenSo(27, Radio.FRESH::make, x -> x.setSpeed(1, 300));
        Boundary.savesEvenSo(28, Radio.FRESH::make, x -> x.setFailsafe(1, 0, 0));
        Boundary.changesNothing(29, "Returns the demand of a servo.", x -> x.demand(5));
        Boundary.changesNothing(30, "Returns the aim of a servo.", x -> x.aim(5));
        Boundary.changesNothing(31, "Tells by how much a servo is limited.", x -> x.excess(5));
        Boundary.changesNothing(32, "Returns the target of a servo.", x -> x.target(5));
        Boundary.changesNothing(33, "Returns the position of a servo.", x -> x.servoPosition(5));
        Boundary.changesNothing(34, "Returns the wear of a servo.", x -> x.wear(5));
    }
}
