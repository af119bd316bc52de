/** Promises 2 to 14: sticks. */
public final class SticksTest {
    public static void main(String[] args) {
        movesAndPositions();
        trims();
        rates();
        expos();
        switchOfRates();
        cut();
        commands();
        wrongSticks();
        Checks.finish("SticksTest");
    }

    private static void movesAndPositions() {
        PlaneServos x = new PlaneServos();
        Checks.due("move(3, -100)", x.move(3, -100), 0);
        Checks.due("move(3, 100)", x.move(3, 100), -100);
        Checks.due("move(0, 7)", x.move(0, 7), 0);
        Checks.due("position(3)", x.position(3), 100);
        Checks.due("position(0)", x.position(0), 7);
        Checks.due("position(1)", x.position(1), 0);
        Checks.undoable("move(2, 1)", x, y -> y.move(2, 1));
        Checks.undoable("move(2, 1) again", x, y -> y.move(2, 1));
        Checks.quiet("position(2)", x, y -> y.position(2));
        Checks.refused("move(0, 101)", x, Checks.ARGUMENT, y -> y.move(0, 101));
        Checks.refused("move(0, -101)", x, Checks.ARGUMENT, y -> y.move(0, -101));
        Checks.refused("move(0, least)", x, Checks.ARGUMENT, y -> y.move(0, Integer.MIN_VALUE));
        Checks.refused("move(4, 101)", x, Checks.INDEX, y -> y.move(4, 101));
    }

    private static void trims() {
        PlaneServos x = new PlaneServos();
        Checks.due("setTrim(1, 25)", x.setTrim(1, 25), 0);
        Checks.due("setTrim(1, -25)", x.setTrim(1, -25), 25);
        Checks.due("trim(1)", x.trim(1), -25);
        Checks.due("trim(0)", x.trim(0), 0);
        x.switchRates();
        Checks.due("trim(1), low", x.trim(1), 0);
        Checks.due("setTrim(1, 3), low", x.setTrim(1, 3), 0);
        Checks.due("trim(1), low, set", x.trim(1), 3);
        x.switchRates();
        Checks.due("trim(1), high again", x.trim(1), -25);
        Checks.undoable("setTrim(0, 4)", x, y -> y.setTrim(0, 4));
        Checks.quiet("trim(0)", x, y -> y.trim(0));
        Checks.refused("setTrim(1, 26)", x, Checks.ARGUMENT, y -> y.setTrim(1, 26));
        Checks.refused("setTrim(1, -26)", x, Checks.ARGUMENT, y -> y.setTrim(1, -26));
        Checks.refused("setTrim(-1, 26)", x, Checks.INDEX, y -> y.setTrim(-1, 26));
    }

    private static void rates() {
        PlaneServos x = new PlaneServos();
        Checks.due("setRate(2, 125)", x.setRate(2, 125), 100);
        Checks.due("setRate(2, 0)", x.setRate(2, 0), 125);
        Checks.due("rate(2)", x.rate(2), 0);
        Checks.due("rate(3)", x.rate(3), 100);
        x.switchRates();
        Checks.due("rate(2), low", x.rate(2), 100);
        Checks.due("setRate(2, 40), low", x.setRate(2, 40), 100);
        x.switchRates();
        Checks.due("rate(2), high again", x.rate(2), 0);
        Checks.undoable("setRate(0, 4)", x, y -> y.setRate(0, 4));
        Checks.quiet("rate(0)", x, y -> y.rate(0));
        Checks.refused("setRate(2, 126)", x, Checks.ARGUMENT, y -> y.setRate(2, 126));
        Checks.refused("setRate(2, -1)", x, Checks.ARGUMENT, y -> y.setRate(2, -1));
        Checks.refused("setRate(4, -1)", x, Checks.INDEX, y -> y.setRate(4, -1));
    }

    private static void expos() {
        PlaneServos x = new PlaneServos();
        Checks.due("setExpo(0, 100)", x.setExpo(0, 100), 0);
        Checks.due("setExpo(0, 30)", x.setExpo(0, 30), 100);
        Checks.due("expo(0)", x.expo(0), 30);
        Checks.due("expo(1)", x.expo(1), 0);
        x.switchRates();
        Checks.due("expo(0), low", x.expo(0), 30);
        Checks.undoable("setExpo(1, 4)", x, y -> y.setExpo(1, 4));
        Checks.undoable("setExpo(1, 0)", x, y -> y.setExpo(1, 0));
        Checks.quiet("expo(1)", x, y -> y.expo(1));
        Checks.refused("setExpo(0, 101)", x, Checks.ARGUMENT, y -> y.setExpo(0, 101));
        Checks.refused("setExpo(0, -1)", x, Checks.ARGUMENT, y -> y.setExpo(0, -1));
        Checks.refused("setExpo(4, 101)", x, Checks.INDEX, y -> y.setExpo(4, 101));
    }

    private static void switchOfRates() {
        PlaneServos x = new PlaneServos();
        Checks.due("switchRates()", x.switchRates(), false);
        Checks.due("isHigh()", x.isHigh(), false);
        Checks.due("switchRates() again", x.switchRates(), true);
        Checks.due("isHigh() again", x.isHigh(), true);
        Checks.undoable("switchRates()", x, y -> y.switchRates());
        Checks.quiet("isHigh()", x, y -> y.isHigh());
    }

    private static void cut() {
        PlaneServos x = new PlaneServos();
        Checks.due("cutThrottle(false)", x.cutThrottle(false), false);
        Checks.due("cutThrottle(true)", x.cutThrottle(true), false);
        Checks.due("isCut()", x.isCut(), true);
        Checks.due("cutThrottle(true) again", x.cutThrottle(true), true);
        Checks.due("cutThrottle(false) after it", x.cutThrottle(false), true);
        Checks.due("isCut() after it", x.isCut(), false);
        Checks.undoable("cutThrottle(true)", x, y -> y.cutThrottle(true));
        Checks.undoable("cutThrottle(true), nothing changes", x, y -> y.cutThrottle(true));
        Checks.quiet("isCut()", x, y -> y.isCut());
    }

    private static void commands() {
        commandDue(99, 100, 100, 0, 97);
        commandDue(-99, 100, 100, 0, -97);
        commandDue(50, 50, 100, 0, 31);
        commandDue(-50, 50, 60, 7, -11);
        commandDue(21, 33, 100, 0, 14);
        commandDue(-21, 33, 100, 0, -14);
        commandDue(33, 47, 77, -3, 10);
        commandDue(-33, 47, 77, 3, -10);
        commandDue(100, 0, 125, 25, 150);
        commandDue(-100, 0, 125, -25, -150);
        commandDue(-7, 0, 15, 0, -1);
        commandDue(40, 0, 0, -5, -5);
        throttle();
    }

    private static void commandDue(int position, int expo, int rate, int trim, int want) {
        for (int stick = 0; stick < 4; stick++) {
            PlaneServos x = new PlaneServos();
            x.setExpo(stick, expo);
            x.setRate(stick, rate);
            x.setTrim(stick, trim);
            x.move(stick, position);
            Checks.due("command of " + position + ", " + expo + ", " + rate + ", " + trim, x.command(stick), want);
            x.switchRates();
            x.setExpo(stick, 0);
            Checks.due("command with the rate and trim for low", x.command(stick), position);
            Checks.quiet("command(" + stick + ")", x, y -> y.command(0));
        }
    }

    private static void throttle() {
        PlaneServos x = new PlaneServos();
        x.move(2, 60);
        x.setTrim(2, 25);
        x.cutThrottle(true);
        Checks.due("command(2), cut", x.command(2), -100);
        x.move(1, 60);
        Checks.due("command(1), cut", x.command(1), 60);
        x.cutThrottle(false);
        Checks.due("command(2), not cut", x.command(2), 85);
    }

    private static void wrongSticks() {
        int[] wrong = {-1, 4, Integer.MIN_VALUE, Integer.MAX_VALUE};
        for (int stick : wrong) {
            PlaneServos x = new PlaneServos();
            Checks.refused("move(" + stick + ", 0)", x, Checks.INDEX, y -> y.move(stick, 0));
            Checks.refused("position(" + stick + ")", x, Checks.INDEX, y -> y.position(stick));
            Checks.refused("setTrim(" + stick + ", 0)", x, Checks.INDEX, y -> y.setTrim(stick, 0));
            Checks.refused("trim(" + stick + ")", x, Checks.INDEX, y -> y.trim(stick));
            Checks.refused("setRate(" + stick + ", 0)", x, Checks.INDEX, y -> y.setRate(stick, 0));
            Checks.refused("rate(" + stick + ")", x, Checks.INDEX, y -> y.rate(stick));
            Checks.refused("setExpo(" + stick + ", 0)", x, Checks.INDEX, y -> y.setExpo(stick, 0));
            Checks.refused("expo(" + stick + ")", x, Checks.INDEX, y -> y.expo(stick));
            Checks.refused("command(" + stick + ")", x, Checks.INDEX, y -> y.command(stick));
        }
    }
}
