/** Promises 35 to 46, sentence by sentence. */
final class FrameBoundaries {
    private static final String AT_SPEED_AND_BATTERY = "A servo moves toward its target by the distance from its"
        + " position to its target, but at most by its speed, and at most by the number of units in the battery.";
    private static final String EMPTY =
        "If the battery is empty (0 units) when a frame is sent, the frame is lost in any case.";

    private FrameBoundaries() {
    }

    static void test() {
        numbersOfFrames();
        sums();
        receivedFrames();
        lostFrames();
        delays();
        failsafeStarts();
        presets();
        modeOff();
        failsafesAreCounted();
        delayChanges();
        unitOfEachFrame();
        distances();
        lastUnits();
        emptyBattery();
        charges();
        counters();
        savedAndUnchanged();
    }

    private static void numbersOfFrames() {
        String wrong = "Throws `IllegalArgumentException` if frames is out of range";
        Boundary.refuses(35, wrong, Checks.ARGUMENT, 1, 50, (x, frames) -> x.send(frames));
        Boundary.refuses(36, wrong, Checks.ARGUMENT, 1, 50, (x, frames) -> x.lose(frames));
        for (int number : new int[] {1, 2, 49, 50}) {
            Boundary.test(35, "`frames`: 1 to 50", () -> {
                PlaneServos x = new PlaneServos();
                x.send(number);
                Checks.due("frames() after send(" + number + ")", x.frames(), number);
                Checks.due("lostFrames() after send(" + number + ")", x.lostFrames(), 0);
            });
            Boundary.test(36, "`frames`: 1 to 50", () -> {
                PlaneServos x = new PlaneServos();
                x.lose(number);
                Checks.due("frames() after lose(" + number + ")", x.frames(), number);
                Checks.due("lostFrames() after lose(" + number + ")", x.lostFrames(), number);
            });
        }
        Boundary.test(41, "A frame is sent as received or as lost.", () -> {
            PlaneServos x = new PlaneServos();
            x.send(3);
            x.lose(2);
            Checks.due("frames()", x.frames(), 5);
            Checks.due("lostFrames()", x.lostFrames(), 2);
        });
    }

    private static void sums() {
        Boundary.test(35, "Returns the sum of the distances by which servos move.", () -> {
            PlaneServos x = new PlaneServos();
            Checks.due("send(50), no servo moves", x.send(50), 0);
            x.setSpeed(0, 10);
            x.move(0, 100);
            x.move(3, -30);
            Checks.due("send(1), of two servos", x.send(1), 10 + 30);
            Checks.due("send(3), of three frames", x.send(3), 30);
            Checks.due("send(50), up to the target", x.send(50), 60);
            Checks.due("send(1), there", x.send(1), 0);
        });
        Boundary.test(36, "Returns the sum of the distances by which servos move.", () -> {
            PlaneServos x = new PlaneServos();
            x.move(0, 100);
            Checks.due("lose(4), no target was received", x.lose(4), 0);
            x.setSpeed(0, 10);
            x.send(1);
            Checks.due("lose(2), up to the old target", x.lose(2), 20);
            Checks.due("lose(50), up to the old target", x.lose(50), 70);
        });
    }

    private static void receivedFrames() {
        String sentence = "If the frame is received, the number of frames lost in a row becomes 0, and the target of"
            + " each servo becomes its aim.";
        Boundary.test(44, sentence, () -> {
            PlaneServos x = new PlaneServos();
            x.send(1);
            Checks.due("lostInRow(), none was lost", x.lostInRow(), 0);
            x.lose(50);
            x.send(1);
            Checks.due("lostInRow(), one received", x.lostInRow(), 0);
            x.lose(1);
            Checks.due("lostInRow(), counted from the start again", x.lostInRow(), 1);
        });
        Boundary.test(32, sentence, () -> {
            PlaneServos x = new PlaneServos();
            x.addMix(1, 4, 20, 0, 0);
            x.addMix(1, 5, -20, 0, 0);
            for (int stick = 0; stick < 4; stick++) {
                x.move(stick, 100 - 60 * stick);
            }
            x.send(1);
            int[] due = {100, 40, -20, -80, 8, -8};
            for (int servo = 0; servo < 6; servo++) {
                Checks.due("target(" + servo + ")", x.target(servo), due[servo]);
            }
        });
        Boundary.test(45, "If the frame is received, the number of frames lost in a row becomes 0", () -> {
            PlaneServos x = new PlaneServos();
            x.setDelay(1);
            x.lose(1);
            x.send(1);
            Checks.due("isFailsafe(), received, delay 1", x.isFailsafe(), false);
        });
    }

    private static void lostFrames() {
        Boundary.test(44, "If the frame is lost, the number of frames lost in a row increases by 1.", () -> {
            PlaneServos x = new PlaneServos();
            for (int lost = 1; lost <= 7; lost++) {
                x.lose(1);
                Checks.due("lostInRow()", x.lostInRow(), lost);
            }
            x.lose(50);
            Checks.due("lostInRow()", x.lostInRow(), 57);
        });
        Boundary.test(32, "If the frame is lost", () -> {
            PlaneServos x = new PlaneServos();
            x.move(0, 30);
            x.send(1);
            x.move(0, -90);
            x.lose(4);
            Checks.due("target(0), frames lost", x.target(0), 30);
            x.lose(1);
            Checks.due("target(0), hold", x.target(0), 30);
        });
        Boundary.test(44, "or all frames if none was received.", () -> {
            PlaneServos x = new PlaneServos();
            Checks.due("lostInRow(), no frame", x.lostInRow(), 0);
            x.lose(1);
            x.lose(2);
            Checks.due("lostInRow(), all lost", x.lostInRow(), 3);
        });
        Boundary.test(44, "those that were lost after the latest received frame", () -> {
            PlaneServos x = new PlaneServos();
            x.lose(3);
            x.send(1);
            x.lose(2);
            Checks.due("lostInRow()", x.lostInRow(), 2);
            Checks.due("lostFrames()", x.lostFrames(), 5);
        });
    }

    private static void delays() {
        Boundary.takes(37, "`delay`: 1 to 50", 1, 50, 5, (x, delay) -> x.setDelay(delay));
        Boundary.refuses(37, "Throws `IllegalArgumentException` if delay is out of range", Checks.ARGUMENT, 1, 50,
            (x, delay) -> x.setDelay(delay));
        Boundary.test(45, "There is a failsafe delay from 1 to 50 frames", () -> {
            PlaneServos x = new PlaneServos();
            x.setDelay(1);
            x.lose(1);
            Checks.due("isFailsafe(), the least delay", x.isFailsafe(), true);
            PlaneServos y = new PlaneServos();
            y.setDelay(50);
            y.lose(49);
            Checks.due("isFailsafe(), one short of the greatest delay", y.isFailsafe(), false);
            y.lose(1);
            Checks.due("isFailsafe(), the greatest delay", y.isFailsafe(), true);
        });
    }

    private static void failsafeStarts() {
        Boundary.test(45, "The failsafe is on if the number of frames lost in a row is at least the failsafe delay.",
            () -> {
                for (int delay = 1; delay <= 7; delay++) {
                    PlaneServos x = new PlaneServos();
                    x.setDelay(delay);
                    for (int lost = 1; lost <= 9; lost++) {
                        x.lose(1);
                        Checks.due("isFailsafe(), delay " + delay + ", lost " + lost, x.isFailsafe(), lost >= delay);
                    }
                    x.send(1);
                    Checks.due("isFailsafe(), received", x.isFailsafe(), false);
                }
            });
        Boundary.test(45, "false if no frame was sent.", () -> {
            PlaneServos x = new PlaneServos();
            x.setDelay(1);
            Checks.due("isFailsafe(), no frame", x.isFailsafe(), false);
        });
    }

    private static void presets() {
        String sentence = "If the failsafe is on, the target of each servo with the mode 1 becomes its preset, but at"
            + " least its low limit and at most its high limit.";
        Boundary.test(32, sentence, () -> {
            int[] presets = {-150, -21, -20, -19, 0, 29, 30, 31, 150};
            int[] due = {-20, -20, -20, -19, 0, 29, 30, 30, 30};
            for (int i = 0; i < presets.length; i++) {
                PlaneServos x = new PlaneServos();
                x.setLimits(2, -20, 30);
                x.setFailsafe(2, 1, presets[i]);
                x.lose(4);
                Checks.due("target(2), before the failsafe, preset " + presets[i], x.target(2), 0);
                x.lose(1);
                Checks.due("target(2), preset " + presets[i], x.target(2), due[i]);
            }
        });
        Boundary.test(32, "the target of each servo with the mode 1 becomes its preset", () -> {
            PlaneServos x = new PlaneServos();
            for (int servo = 0; servo < 6; servo++) {
                x.setFailsafe(servo, servo < 4 ? 1 : servo == 4 ? 0 : 2, 10 + servo);
            }
            x.lose(5);
            int[] due = {10, 11, 12, 13, 0, 0};
            for (int servo = 0; servo < 6; servo++) {
                Checks.due("target(" + servo + ")", x.target(servo), due[servo]);
            }
        });
        Boundary.test(33, sentence, () -> {
            PlaneServos x = new PlaneServos();
            x.setFailsafe(0, 1, 50);
            Checks.due("lose(5), the last one moves", x.lose(5), 50);
            x.setFailsafe(0, 1, -50);
            Checks.due("lose(1), each frame anew", x.lose(1), 100);
        });
    }

    private static void modeOff() {
        Boundary.test(33, "except for servos with the mode 2 while the failsafe is on.", () -> {
            PlaneServos x = new PlaneServos();
            x.setFailsafe(0, 2, 0);
            x.setSpeed(0, 10);
            x.move(0, 100);
            x.send(1);
            Checks.due("lose(4), before the failsafe", x.lose(4), 40);
            Checks.due("lose(1), the first frame of the failsafe", x.lose(1), 0);
            Checks.due("lose(50), in the failsafe", x.lose(50), 0);
            Checks.due("servoPosition(0)", x.servoPosition(0), 50);
            Checks.due("target(0)", x.target(0), 100);
            Checks.due("send(1), the first frame after it", x.send(1), 10);
        });
    }

    private static void failsafesAreCounted() {
        Boundary.test(46, "If the failsafe is on and was not on after the previous frame, the number of failsafes"
            + " increases by 1.", () -> {
                PlaneServos x = new PlaneServos();
                x.lose(4);
                Checks.due("failsafes(), one short of the delay", x.failsafes(), 0);
                x.lose(1);
                Checks.due("failsafes(), the first", x.failsafes(), 1);
                x.lose(50);
                Checks.due("failsafes(), it goes on", x.failsafes(), 1);
                x.send(1);
                Checks.due("failsafes(), it has ended", x.failsafes(), 1);
                x.lose(5);
                Checks.due("failsafes(), the second", x.failsafes(), 2);
            });
        Boundary.test(46, "(It was not on before the first frame.", () -> {
            PlaneServos x = new PlaneServos();
            x.setDelay(1);
            Checks.due("failsafes(), no frame", x.failsafes(), 0);
            x.lose(1);
            Checks.due("failsafes(), the first frame is lost", x.failsafes(), 1);
        });
        Boundary.test(46, "Returns the number of failsafes so far.", () -> {
            PlaneServos x = new PlaneServos();
            x.setDelay(1);
            for (int i = 1; i <= 4; i++) {
                x.lose(1);
                x.send(1);
                Checks.due("failsafes()", x.failsafes(), i);
            }
        });
    }

    private static void delayChanges() {
        String sentence = "Changing the delay turns the failsafe on or off only at the next frame.";
        Boundary.test(45, sentence, () -> {
            PlaneServos x = new PlaneServos();
            x.lose(3);
            x.setDelay(3);
            Checks.due("isFailsafe(), shorter, no frame", x.isFailsafe(), false);
            x.lose(1);
            Checks.due("isFailsafe(), shorter, one frame", x.isFailsafe(), true);
            x.setDelay(5);
            Checks.due("isFailsafe(), just longer, no frame", x.isFailsafe(), true);
            x.lose(1);
            Checks.due("isFailsafe(), the fifth frame", x.isFailsafe(), true);
            x.setDelay(7);
            Checks.due("isFailsafe(), longer, no frame", x.isFailsafe(), true);
            x.lose(1);
            Checks.due("isFailsafe(), longer, one frame", x.isFailsafe(), false);
        });
        Boundary.test(46, sentence, () -> {
            PlaneServos x = new PlaneServos();
            x.lose(5);
            x.setDelay(9);
            x.lose(1);
            x.setDelay(2);
            Checks.due("failsafes(), no frame", x.failsafes(), 1);
            x.lose(1);
            Checks.due("failsafes(), on again without a received frame", x.failsafes(), 2);
            x.setDelay(50);
            x.setDelay(2);
            x.lose(1);
            Checks.due("failsafes(), there and back between two frames", x.failsafes(), 2);
        });
    }

    private static void unitOfEachFrame() {
        Boundary.test(39, "If the battery is not empty, it loses 1 unit.", () -> {
            PlaneServos x = new PlaneServos();
            x.send(1);
            Checks.due("battery(), one frame", x.battery(), 19999);
            x.lose(50);
            Checks.due("battery(), lost ones too", x.battery(), 19949);
            PlaneServos y = Radio.withBattery(1);
            y.lose(1);
            Checks.due("battery(), the last unit", y.battery(), 0);
            y.lose(1);
            Checks.due("battery(), empty", y.battery(), 0);
            y.send(50);
            Checks.due("battery(), still empty", y.battery(), 0);
        });
        Boundary.test(39, "The battery contains 0 to 20000 units", () -> {
            PlaneServos x = Radio.withBattery(3);
            x.send(50);
            Checks.due("battery(), the least", x.battery(), 0);
            x.charge();
            Checks.due("battery(), the greatest", x.battery(), 20000);
            x.charge();
            Checks.due("battery(), full and charged", x.battery(), 20000);
        });
    }

    private static void distances() {
        Boundary.test(33, AT_SPEED_AND_BATTERY, () -> {
            for (int sign : new int[] {-1, 1}) {
                for (int speed : new int[] {39, 40, 41}) {
                    PlaneServos x = new PlaneServos();
                    x.setSpeed(0, speed);
                    x.move(0, 40 * sign);
                    Checks.due("send(1), speed " + speed, x.send(1), Math.min(40, speed));
                    Checks.due("servoPosition(0)", x.servoPosition(0), sign * Math.min(40, speed));
                    Checks.due("send(1) again, speed " + speed, x.send(1), speed == 39 ? 1 : 0);
                    Checks.due("servoPosition(0) again", x.servoPosition(0), sign * 40);
                }
            }
        });
        Boundary.test(34, "The battery loses one unit for each unit of distance, and the wear of the servo increases by"
            + " the distance.", () -> {
                PlaneServos x = new PlaneServos();
                x.move(0, 40);
                x.move(1, -30);
                x.send(1);
                Checks.due("wear(0)", x.wear(0), 40);
                Checks.due("wear(1), downwards", x.wear(1), 30);
                Checks.due("wear(2), unmoved", x.wear(2), 0);
                Checks.due("battery()", x.battery(), 20000 - 1 - 70);
                x.move(0, -60);
                x.send(2);
                Checks.due("wear(0), there and back", x.wear(0), 140);
                Checks.due("battery(), there and back", x.battery(), 20000 - 3 - 170);
            });
    }

    private static void lastUnits() {
        Boundary.test(33, "and at most by the number of units in the battery.", () -> {
            // One unit goes to the frame itself, before the servos move.
            int[] units = {1, 2, 40, 41, 42};
            for (int number : units) {
                for (int position : new int[] {-40, 40}) {
                    PlaneServos x = Radio.withBattery(number);
                    x.clearMixes(1);
                    x.clearMixes(2);
                    x.clearMixes(3);
                    x.clearMixes(4);
                    x.clearMixes(5);
                    x.move(0, position);
                    int due = Math.min(40, number - 1);
                    Checks.due("send(1), units " + number, x.send(1), due);
                    Checks.due("servoPosition(0)", x.servoPosition(0), position < 0 ? -due : due);
                    Checks.due("battery()", x.battery(), number - 1 - due);
                    Checks.due("target(0)", x.target(0), position);
                }
            }
        });
        Boundary.test(33, "The servos move in ascending order of their numbers", () -> {
            PlaneServos x = Radio.withBattery(101);
            x.setSpeed(1, 15);
            x.move(0, -40);
            Checks.due("send(1)", x.send(1), 100);
            int[] due = {-40, -15, -40, -5, 0, 0};
            for (int servo = 0; servo < 6; servo++) {
                Checks.due("servoPosition(" + servo + ")", x.servoPosition(servo), due[servo]);
            }
            Checks.due("battery()", x.battery(), 0);
        });
    }

    private static void emptyBattery() {
        Boundary.test(35, EMPTY, () -> {
            PlaneServos x = Radio.withBattery(1);
            x.move(0, 50);
            x.send(1);
            Checks.due("target(0), received with the last unit", x.target(0), 50);
            Checks.due("lostFrames(), received with the last unit", x.lostFrames(), 0);
            x.move(0, 60);
            Checks.due("send(1), empty", x.send(1), 0);
            Checks.due("target(0), empty", x.target(0), 50);
            Checks.due("lostFrames(), empty", x.lostFrames(), 1);
        });
        Boundary.test(35, "Sends frames that are received (unless the battery is empty).", () -> {
            PlaneServos x = Radio.withBattery(2);
            x.send(5);
            Checks.due("lostFrames(), three of five", x.lostFrames(), 3);
            Checks.due("lostInRow(), three of five", x.lostInRow(), 3);
        });
        Boundary.test(45, EMPTY, () -> {
            PlaneServos x = Radio.withBattery(0);
            x.send(4);
            Checks.due("isFailsafe(), one short of the delay", x.isFailsafe(), false);
            x.send(1);
            Checks.due("isFailsafe(), at the delay", x.isFailsafe(), true);
            Checks.due("failsafes()", x.failsafes(), 1);
            x.charge();
            Checks.due("isFailsafe(), charged, no frame", x.isFailsafe(), true);
            x.send(1);
            Checks.due("isFailsafe(), charged", x.isFailsafe(), false);
        });
        Boundary.test(43, "Returns the number of frames that were sent so far while the battery was empty.", () -> {
            Checks.due("deadFrames(), no frame", new PlaneServos().deadFrames(), 0);
            PlaneServos x = Radio.withBattery(1);
            x.lose(1);
            Checks.due("deadFrames(), the last unit", x.deadFrames(), 0);
            x.lose(2);
            Checks.due("deadFrames(), lost ones", x.deadFrames(), 2);
            x.send(50);
            Checks.due("deadFrames(), others", x.deadFrames(), 52);
            x.charge();
            x.send(1);
            Checks.due("deadFrames(), charged", x.deadFrames(), 52);
        });
    }

    private static void charges() {
        Boundary.test(38, "Charges the battery to 20000 units.", () -> {
            PlaneServos x = Radio.withBattery(0);
            x.charge();
            Checks.due("battery(), it was empty", x.battery(), 20000);
            x.send(1);
            x.charge();
            Checks.due("battery(), it was nearly full", x.battery(), 20000);
        });
        Boundary.test(38, "Returns the number of units that are added.", () -> {
            PlaneServos x = Radio.withBattery(0);
            Checks.due("charge(), empty", x.charge(), 20000);
            Checks.due("charge(), full", x.charge(), 0);
            x.send(1);
            Checks.due("charge(), one short of full", x.charge(), 1);
        });
        Boundary.test(40, "Returns the number of units that were added by charge() so far.", () -> {
            PlaneServos x = Radio.withBattery(0);
            Checks.due("charged(), never", x.charged(), 0);
            x.charge();
            Checks.due("charged(), once", x.charged(), 20000);
            x.charge();
            Checks.due("charged(), full", x.charged(), 20000);
            x.lose(2);
            x.charge();
            Checks.due("charged(), twice", x.charged(), 20002);
            x.undo();
            Checks.due("charged(), undone", x.charged(), 20000);
        });
        Boundary.savesEvenSo(38, Radio.FRESH::make, x -> x.charge());
    }

    private static void counters() {
        Boundary.test(41, "Returns the number of frames that were sent so far, received or lost.", () -> {
            PlaneServos x = Radio.withBattery(0);
            int before = x.frames();
            x.send(1);
            x.lose(1);
            Checks.due("frames(), dead ones too", x.frames(), before + 2);
            Checks.due("frames(), no frame", new PlaneServos().frames(), 0);
        });
        Boundary.test(42, "Returns the number of frames that were lost so far.", () -> {
            PlaneServos x = new PlaneServos();
            Checks.due("lostFrames(), no frame", x.lostFrames(), 0);
            x.send(50);
            Checks.due("lostFrames(), none lost", x.lostFrames(), 0);
            x.lose(1);
            x.send(1);
            x.lose(1);
            Checks.due("lostFrames(), not in a row", x.lostFrames(), 2);
        });
        Boundary.test(36, "Sends frames that are lost.", () -> {
            PlaneServos x = new PlaneServos();
            x.move(0, 100);
            x.lose(50);
            Checks.due("target(0)", x.target(0), 0);
            Checks.due("lostInRow()", x.lostInRow(), 50);
        });
    }

    private static void savedAndUnchanged() {
        Boundary.undoable(35, "Undoable, as one call.", x -> x.send(50));
        Boundary.undoable(36, "Undoable, as one call.", x -> x.lose(50));
        Boundary.undoable(37, "Sets the failsafe delay. Undoable.", x -> x.setDelay(2));
        Boundary.undoable(38, "Charges the battery to 20000 units. Undoable.", x -> x.charge());
        Boundary.savesEvenSo(37, Radio.FRESH::make, x -> x.setDelay(5));
        Boundary.savesEvenSo(37, Radio.BUSY::make, x -> x.setDelay(3));
        Boundary.changesNothing(39, "Returns the number of units in the battery.", x -> x.battery());
        Boundary.changesNothing(40, "Returns the number of units that were added", x -> x.charged());
        Boundary.changesNothing(41, "Returns the number of frames that were sent so far", x -> x.frames());
        Boundary.changesNothing(42, "Returns the number of frames that were lost so far.", x -> x.lostFrames());
        Boundary.changesNothing(43, "Returns the number of frames that were sent so far while", x -> x.deadFrames());
        Boundary.changesNothing(44, "Returns the number of frames lost in a row", x -> x.lostInRow());
        Boundary.changesNothing(45, "Returns true if the failsafe was on in the latest frame", x -> x.isFailsafe());
        Boundary.changesNothing(46, "Returns the number of failsafes so far.", x -> x.failsafes());
    }
}
