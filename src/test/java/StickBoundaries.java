/** Promises 2 to 14, sentence by sentence. */
final class StickBoundaries {
    /** Sets a value of a stick and answers the one before. */
    private interface Setter {
        int set(PlaneServos x, int stick, int value);
    }

    private static final String STICK = "`stick`: 0 to 3";
    private static final String NO_STICK = "Throws `IndexOutOfBoundsException` if there is no such stick";

    private StickBoundaries() {
    }

    static void test() {
        wrongSticks();
        rightSticks();
        terms();
        positions();
        trims();
        rates();
        expos();
        twoExceptions();
        twoOfEach();
        switches();
        commands();
        cuts();
    }

    private static void wrongSticks() {
        noSuchStick(2, (x, stick) -> x.move(stick, 1));
        noSuchStick(3, (x, stick) -> x.position(stick));
        noSuchStick(4, (x, stick) -> x.setTrim(stick, 1));
        noSuchStick(5, (x, stick) -> x.trim(stick));
        noSuchStick(6, (x, stick) -> x.setRate(stick, 1));
        noSuchStick(7, (x, stick) -> x.rate(stick));
        noSuchStick(8, (x, stick) -> x.setExpo(stick, 1));
        noSuchStick(9, (x, stick) -> x.expo(stick));
        noSuchStick(14, (x, stick) -> x.command(stick));
    }

    private static void noSuchStick(int promise, Boundary.Call call) {
        Boundary.refuses(promise, NO_STICK, Checks.INDEX, 0, 3, call);
    }

    private static void rightSticks() {
        reaches(2, (x, stick, value) -> x.move(stick, value), (x, stick) -> x.position(stick), 0);
        reaches(3, (x, stick, value) -> x.move(stick, value), (x, stick) -> x.position(stick), 0);
        reaches(4, (x, stick, value) -> x.setTrim(stick, value), (x, stick) -> x.trim(stick), 0);
        reaches(5, (x, stick, value) -> x.setTrim(stick, value), (x, stick) -> x.trim(stick), 0);
        reaches(6, (x, stick, value) -> x.setRate(stick, value), (x, stick) -> x.rate(stick), 100);
        reaches(7, (x, stick, value) -> x.setRate(stick, value), (x, stick) -> x.rate(stick), 100);
        reaches(8, (x, stick, value) -> x.setExpo(stick, value), (x, stick) -> x.expo(stick), 0);
        reaches(9, (x, stick, value) -> x.setExpo(stick, value), (x, stick) -> x.expo(stick), 0);
        reaches(14, (x, stick, value) -> x.move(stick, value), (x, stick) -> x.command(stick), 0);
    }

    /** Each number of a stick, the least and the greatest too, reaches that stick and no other. */
    private static void reaches(int promise, Setter setter, Boundary.Call reader, int first) {
        Boundary.test(promise, STICK, () -> {
            for (int stick = 0; stick < 4; stick++) {
                PlaneServos x = new PlaneServos();
                Checks.due("the first one of " + stick, setter.set(x, stick, 17), first);
                for (int other = 0; other < 4; other++) {
                    Checks.due("stick " + stick + " set, stick " + other, reader.on(x, other),
                        other == stick ? 17 : first);
                }
            }
        });
    }

    private static void terms() {
        Boundary.test(3, "There are four sticks with the numbers 0 (aileron), 1 (elevator), 2 (throttle) and 3"
            + " (rudder).", () -> {
                for (int stick = 0; stick < 4; stick++) {
                    Checks.due("position(" + stick + ")", new PlaneServos().position(stick), 0);
                }
                PlaneServos x = new PlaneServos();
                x.cutThrottle(true);
                Checks.due("command(2), the throttle", x.command(2), -100);
            });
        Boundary.test(3, "\"There is no such stick\" means that the number is not 0 to 3.", () -> {
            for (int number = -3; number < 8; number++) {
                int stick = number;
                Checks.due("position(" + stick + ") throws", Boundary.thrownBy(new PlaneServos(),
                    x -> x.position(stick)) == Checks.INDEX, stick < 0 || stick > 3);
            }
        });
    }

    private static void positions() {
        Boundary.takes(2, "`position`: -100 to 100", -100, 100, 0, (x, position) -> x.move(1, position));
        Boundary.refuses(2, "Throws `IllegalArgumentException` if position is out of range", Checks.ARGUMENT, -100, 100,
            (x, position) -> x.move(1, position));
        Boundary.test(3, "A stick has a position from -100 to 100", () -> {
            PlaneServos x = new PlaneServos();
            x.move(3, 100);
            Checks.due("position(3), the greatest", x.position(3), 100);
            x.move(3, -100);
            Checks.due("position(3), the least", x.position(3), -100);
        });
        Boundary.undoable(2, "Moves a stick. Undoable.", x -> x.move(2, 5));
        Boundary.savesEvenSo(2, Radio.READY::make, x -> x.move(0, 0));
        Boundary.savesEvenSo(2, Radio.BUSY::make, x -> x.move(0, 33));
        Boundary.changesNothing(3, "Returns the position of a stick.", x -> x.position(0));
    }

    private static void trims() {
        Boundary.takes(4, "`trim`: -25 to 25", -25, 25, 0, (x, trim) -> x.setTrim(1, trim));
        Boundary.refuses(4, "Throws `IllegalArgumentException` if trim is out of range", Checks.ARGUMENT, -25, 25,
            (x, trim) -> x.setTrim(1, trim));
        Boundary.test(5, "A trim is -25 to 25", () -> {
            PlaneServos x = new PlaneServos();
            x.setTrim(3, 25);
            Checks.due("trim(3), the greatest", x.trim(3), 25);
            x.setTrim(3, -25);
            Checks.due("trim(3), the least", x.trim(3), -25);
        });
        Boundary.undoable(4, "Sets the trim of a stick for the present position of the rate switch. Undoable.",
            x -> x.setTrim(2, 5));
        Boundary.savesEvenSo(4, Radio.FRESH::make, x -> x.setTrim(0, 0));
        Boundary.savesEvenSo(4, Radio.BUSY::make, x -> x.setTrim(1, -9));
        Boundary.changesNothing(5, "Returns the trim of a stick", x -> x.trim(0));
    }

    private static void rates() {
        Boundary.takes(6, "`rate`: 0 to 125", 0, 125, 100, (x, rate) -> x.setRate(1, rate));
        Boundary.refuses(6, "Throws `IllegalArgumentException` if rate is out of range", Checks.ARGUMENT, 0, 125,
            (x, rate) -> x.setRate(1, rate));
        Boundary.test(7, "A rate is 0 to 125", () -> {
            PlaneServos x = new PlaneServos();
            x.setRate(3, 125);
            Checks.due("rate(3), the greatest", x.rate(3), 125);
            x.setRate(3, 0);
            Checks.due("rate(3), the least", x.rate(3), 0);
        });
        Boundary.undoable(6, "Sets the rate of a stick for the present position of the rate switch. Undoable.",
            x -> x.setRate(2, 5));
        Boundary.savesEvenSo(6, Radio.FRESH::make, x -> x.setRate(0, 100));
        Boundary.savesEvenSo(6, Radio.BUSY::make, x -> x.setRate(2, 60));
        Boundary.changesNothing(7, "Returns the rate of a stick", x -> x.rate(0));
    }

    private static void expos() {
        Boundary.takes(8, "`expo`: 0 to 100", 0, 100, 0, (x, expo) -> x.setExpo(1, expo));
        Boundary.refuses(8, "Throws `IllegalArgumentException` if expo is out of range", Checks.ARGUMENT, 0, 100,
            (x, expo) -> x.setExpo(1, expo));
        Boundary.test(9, "an expo from 0 to 100", () -> {
            PlaneServos x = new PlaneServos();
            x.setExpo(3, 100);
            Checks.due("expo(3), the greatest", x.expo(3), 100);
            x.setExpo(3, 0);
            Checks.due("expo(3), the least", x.expo(3), 0);
        });
        Boundary.undoable(8, "Sets the expo of a stick. Undoable.", x -> x.setExpo(2, 5));
        Boundary.savesEvenSo(8, Radio.FRESH::make, x -> x.setExpo(0, 0));
        Boundary.savesEvenSo(8, Radio.BUSY::make, x -> x.setExpo(0, 10));
        Boundary.changesNothing(9, "Returns the expo of a stick.", x -> x.expo(0));
    }

    private static void twoExceptions() {
        for (int stick : new int[] {-1, 4}) {
            for (Radio from : Radio.values()) {
                Boundary.throwsFirst(2, Checks.INDEX, "move(" + stick + ", 101)", from::make, x -> x.move(stick, 101));
                Boundary.throwsFirst(2, Checks.INDEX, "move(" + stick + ", -101)", from::make,
                    x -> x.move(stick, -101));
                Boundary.throwsFirst(4, Checks.INDEX, "setTrim(" + stick + ", 26)", from::make,
                    x -> x.setTrim(stick, 26));
                Boundary.throwsFirst(4, Checks.INDEX, "setTrim(" + stick + ", -26)", from::make,
                    x -> x.setTrim(stick, -26));
                Boundary.throwsFirst(6, Checks.INDEX, "setRate(" + stick + ", 126)", from::make,
                    x -> x.setRate(stick, 126));
                Boundary.throwsFirst(6, Checks.INDEX, "setRate(" + stick + ", -1)", from::make,
                    x -> x.setRate(stick, -1));
                Boundary.throwsFirst(8, Checks.INDEX, "setExpo(" + stick + ", 101)", from::make,
                    x -> x.setExpo(stick, 101));
                Boundary.throwsFirst(8, Checks.INDEX, "setExpo(" + stick + ", -1)", from::make,
                    x -> x.setExpo(stick, -1));
            }
        }
    }

    private static void twoOfEach() {
        Boundary.test(5, "Each stick has a rate and a trim for the low position of the switch, and another rate and"
            + " another trim for the high position.", () -> {
                for (int stick = 0; stick < 4; stick++) {
                    PlaneServos x = new PlaneServos();
                    x.setTrim(stick, 25);
                    x.switchRates();
                    Checks.due("trim, low, the high one set", x.trim(stick), 0);
                    Checks.due("setTrim, low", x.setTrim(stick, -25), 0);
                    x.switchRates();
                    Checks.due("trim, high, the low one set", x.trim(stick), 25);
                }
            });
        Boundary.test(7, "Methods that read or change a rate or a trim use the one for the present position of the"
            + " switch.", () -> {
                for (int stick = 0; stick < 4; stick++) {
                    PlaneServos x = new PlaneServos();
                    x.switchRates();
                    x.setRate(stick, 0);
                    x.switchRates();
                    Checks.due("rate, high, the low one set", x.rate(stick), 100);
                    Checks.due("setRate, high", x.setRate(stick, 125), 100);
                    x.switchRates();
                    Checks.due("rate, low, the high one set", x.rate(stick), 0);
                }
            });
        Boundary.test(14, "a rate and a trim for the low position of the switch", () -> {
            PlaneServos x = new PlaneServos();
            x.move(1, 100);
            x.setRate(1, 125);
            x.setTrim(1, 25);
            x.switchRates();
            Checks.due("command(1), low", x.command(1), 100);
            x.setRate(1, 0);
            x.setTrim(1, -25);
            Checks.due("command(1), low, set", x.command(1), -25);
            x.switchRates();
            Checks.due("command(1), high", x.command(1), 150);
        });
    }

    private static void switches() {
        Boundary.test(10, "There is one rate switch.", () -> {
            PlaneServos x = new PlaneServos();
            x.switchRates();
            for (int stick = 0; stick < 4; stick++) {
                x.setRate(stick, stick);
            }
            x.switchRates();
            for (int stick = 0; stick < 4; stick++) {
                Checks.due("rate(" + stick + "), high", x.rate(stick), 100);
            }
        });
        Boundary.test(10, "Moves the rate switch from low to high, or from high to low.", () -> {
            PlaneServos x = new PlaneServos();
            Checks.due("switchRates()", x.switchRates(), false);
            Checks.due("switchRates() again", x.switchRates(), true);
            Checks.due("switchRates() a third time", x.switchRates(), false);
        });
        Boundary.undoable(10, "Undoable.", x -> x.switchRates());
        Boundary.test(11, "It is either low or high", () -> {
            PlaneServos x = new PlaneServos();
            x.switchRates();
            Checks.due("isHigh(), low", x.isHigh(), false);
            x.switchRates();
            Checks.due("isHigh(), high", x.isHigh(), true);
        });
        Boundary.changesNothing(11, "Returns true if the rate switch is high.", x -> x.isHigh());
    }

    private static void commands() {
        String curve = "1. The curved position is ((100 - e) * x + e * (x * x * x / 10000)) / 100.";
        Boundary.test(14, curve, StickBoundaries::curves);
        Boundary.test(14, "where x is the position of the stick and e is its expo", () -> {
            commandDue(100, 0, 100, 0, 100);
            commandDue(100, 100, 100, 0, 100);
            commandDue(-100, 0, 100, 0, -100);
            commandDue(-100, 100, 100, 0, -100);
            commandDue(0, 100, 125, 0, 0);
            commandDue(99, 0, 100, 0, 99);
            commandDue(99, 1, 100, 0, 98);
        });
        Boundary.test(14, "2. The command is (curved position) * rate / 100 + trim.", () -> {
            commandDue(100, 0, 125, 25, 150);
            commandDue(-100, 0, 125, -25, -150);
            commandDue(100, 0, 0, 25, 25);
            commandDue(-100, 0, 0, -25, -25);
            commandDue(100, 0, 1, 0, 1);
            commandDue(99, 0, 1, 0, 0);
            commandDue(10, 0, 99, 0, 9);
        });
        Boundary.test(14, "All divisions round toward zero.", () -> {
            commandDue(-99, 0, 1, 0, 0);
            commandDue(-10, 0, 99, 0, -9);
            commandDue(-10, 0, 99, 25, 16);
            commandDue(-21, 100, 100, 0, 0);
            commandDue(-22, 100, 100, 0, -1);
        });
        Boundary.changesNothing(14, "Returns the command of a stick.", x -> x.command(2));
    }

    /** The cube is divided first, then the sum of both parts; each division drops what is left over. */
    private static void curves() {
        commandDue(21, 100, 100, 0, 0);
        commandDue(22, 100, 100, 0, 1);
        commandDue(27, 100, 100, 0, 1);
        commandDue(28, 100, 100, 0, 2);
        // The cube of 46 is 97336; with 9.7336 in place of 9 the command would be 34.
        commandDue(46, 33, 100, 0, 33);
        commandDue(-46, 33, 100, 0, -33);
        // Half of 99 and half of 97 are together 98, but 97 if each part were divided by itself.
        commandDue(99, 50, 100, 0, 98);
        commandDue(-99, 50, 100, 0, -98);
        commandDue(95, 75, 100, 0, 87);
        commandDue(-95, 75, 100, 0, -87);
    }

    private static void commandDue(int position, int expo, int rate, int trim, int want) {
        PlaneServos x = new PlaneServos();
        x.setExpo(1, expo);
        x.setRate(1, rate);
        x.setTrim(1, trim);
        x.move(1, position);
        Checks.due("command of " + position + ", " + expo + ", " + rate + ", " + trim, x.command(1), want);
    }

    private static void cuts() {
        Boundary.test(14, "While it is on, the command of the stick 2 is -100 instead.", () -> {
            PlaneServos x = new PlaneServos();
            for (int stick = 0; stick < 4; stick++) {
                x.setTrim(stick, 25);
                x.move(stick, 100);
            }
            x.cutThrottle(true);
            Checks.due("command(2), cut", x.command(2), -100);
            Checks.due("command(0), cut", x.command(0), 125);
            Checks.due("command(1), cut", x.command(1), 125);
            Checks.due("command(3), cut", x.command(3), 125);
            Checks.due("position(2), cut", x.position(2), 100);
            Checks.due("trim(2), cut", x.trim(2), 25);
            x.cutThrottle(false);
            Checks.due("command(2), not cut", x.command(2), 125);
        });
        Boundary.test(12, "`isOn`: whether the throttle cut is on after the call", () -> {
            PlaneServos x = new PlaneServos();
            x.cutThrottle(true);
            Checks.due("isCut(), turned on", x.isCut(), true);
            x.cutThrottle(true);
            Checks.due("isCut(), turned on twice", x.isCut(), true);
            x.cutThrottle(false);
            Checks.due("isCut(), turned off", x.isCut(), false);
            x.cutThrottle(false);
            Checks.due("isCut(), turned off twice", x.isCut(), false);
        });
        Boundary.test(12, "Returns true if the throttle cut was on before the call.", () -> {
            PlaneServos x = new PlaneServos();
            Checks.due("cutThrottle(true), off", x.cutThrottle(true), false);
            Checks.due("cutThrottle(true), on", x.cutThrottle(true), true);
            Checks.due("cutThrottle(false), on", x.cutThrottle(false), true);
            Checks.due("cutThrottle(false), off", x.cutThrottle(false), false);
        });
        Boundary.undoable(12, "Turns the throttle cut on or off. Undoable.", x -> x.cutThrottle(!x.isCut()));
        Boundary.savesEvenSo(12, Radio.FRESH::make, x -> x.cutThrottle(false));
        Boundary.savesEvenSo(12, Radio.BUSY::make, x -> x.cutThrottle(true));
        Boundary.changesNothing(13, "Returns true if the throttle cut is on.", x -> x.isCut());
    }
}
