/** The radios that the boundary tests start from, each made by calls that are always the same. */
enum Radio {
    /** A new one. */
    FRESH {
        @Override
        PlaneServos make() {
            return new PlaneServos();
        }
    },

    /** Every setting is an odd one, frames are being lost, and more states were saved than can be. */
    BUSY {
        @Override
        PlaneServos make() {
            PlaneServos x = oddlySet();
            x.addMix(0, 4, -120, 5, 1);
            x.addMix(8, 5, 75, -10, 2);
            x.addMix(4, 2, 50, 0, 0);
            x.setDelay(3);
            x.send(2);
            x.store(0);
            x.switchRates();
            x.setTrim(1, -9);
            x.setRate(2, 60);
            x.lose(4);
            x.charge();
            x.cutThrottle(true);
            x.move(0, 33);
            x.lose(2);
            Checks.type(x, "s1=30;f2;t");
            return x;
        }
    },

    /** Few states are saved, and a whole program waits in the buffer. */
    READY {
        @Override
        PlaneServos make() {
            PlaneServos x = new PlaneServos();
            x.elevons(4, 5, 80);
            x.setSpeed(0, 10);
            x.move(0, 50);
            x.store(1);
            x.undo();
            x.setFailsafe(1, 1, 30);
            x.send(3);
            Checks.type(x, "s0=-50;f3;r");
            return x;
        }
    },

    /** No room is left for mixes, signs and saved states, and no memory is empty. */
    FULL {
        @Override
        PlaneServos make() {
            PlaneServos x = new PlaneServos();
            for (int mix = 4; mix < 12; mix++) {
                x.addMix(mix % 4, mix % 6, 10 * mix, mix, mix % 3);
            }
            x.store(0);
            x.move(0, -70);
            x.send(1);
            x.move(3, 20);
            x.store(1);
            Checks.type(x, "s0=-50;s1=-40;s2=-30;s3=-20;t0=-10;t1=-11;t2=-12;f50;l10;r;c");
            return x;
        }
    };

    private String afterlife;

    abstract PlaneServos make();

    /** What it answers to later calls when nothing happens in between. */
    String afterlife() {
        if (afterlife == null) {
            afterlife = Afterlife.of(this::make);
        }
        return afterlife;
    }

    private static PlaneServos oddlySet() {
        PlaneServos x = new PlaneServos();
        for (int stick = 0; stick < 4; stick++) {
            x.setTrim(stick, 5 - 3 * stick);
            x.setRate(stick, 125 - 20 * stick);
            x.setExpo(stick, 10 + 30 * stick);
            x.move(stick, -90 + 55 * stick);
        }
        for (int servo = 0; servo < 6; servo++) {
            x.setNeutral(servo, 40 - 15 * servo);
            x.setLimits(servo, -150 + 20 * servo, 140 - 20 * servo);
            x.setSpeed(servo, 7 + 5 * servo);
            x.setFailsafe(servo, servo % 3, 90 - 30 * servo);
        }
        x.reverse(1);
        x.reverse(4);
        return x;
    }

    /**
     * A radio whose stick 0 alone drives all six servos, in the middle, with this number of units in the battery, at
     * most 700. It has made less than a hundred calls.
     */
    static PlaneServos withBattery(int units) {
        PlaneServos x = new PlaneServos();
        for (int servo = 0; servo < 6; servo++) {
            x.clearMixes(servo);
            x.addMix(0, servo, 100, 0, 0);
        }
        // Each swing takes 1 unit for the frame and 200 for each servo.
        for (int swing = 0; swing < 16; swing++) {
            x.move(0, swing % 2 == 0 ? 100 : -100);
            x.send(1);
        }
        x.move(0, 0);
        x.send(1);
        for (int i = 0; i < 20 && x.battery() > units; i++) {
            x.send(Math.min(50, x.battery() - units));
        }
        Checks.due("the units that a test starts from", x.battery(), units);
        return x;
    }
}
