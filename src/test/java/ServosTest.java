/** Promises 24 to 34: servos. */
public final class ServosTest {
    public static void main(String[] args) {
        reversals();
        neutrals();
        limits();
        speeds();
        failsafeSettings();
        demands();
        demandsThroughServos();
        aimsAndExcesses();
        targetsPositionsWear();
        wrongServos();
        Checks.finish("ServosTest");
    }

    private static void reversals() {
        PlaneServos x = new PlaneServos();
        x.move(0, 40);
        x.setNeutral(0, 10);
        Checks.due("aim(0)", x.aim(0), 50);
        Checks.due("reverse(0)", x.reverse(0), true);
        Checks.due("aim(0), reversed", x.aim(0), -30);
        Checks.due("demand(0), reversed", x.demand(0), 40);
        Checks.due("reverse(0) again", x.reverse(0), false);
        Checks.due("aim(0), not reversed", x.aim(0), 50);
        Checks.due("reverse(5)", x.reverse(5), true);
        Checks.due("aim(0), another reversed", x.aim(0), 50);
        Checks.undoable("reverse(0)", x, y -> y.reverse(0));
    }

    private static void neutrals() {
        PlaneServos x = new PlaneServos();
        Checks.due("setNeutral(1, 50)", x.setNeutral(1, 50), 0);
        Checks.due("setNeutral(1, -50)", x.setNeutral(1, -50), 50);
        Checks.due("aim(1)", x.aim(1), -50);
        Checks.due("aim(0)", x.aim(0), 0);
        x.reverse(1);
        Checks.due("aim(1), reversed", x.aim(1), -50);
        Checks.undoable("setNeutral(1, 3)", x, y -> y.setNeutral(1, 3));
        Checks.refused("setNeutral(1, 51)", x, Checks.ARGUMENT, y -> y.setNeutral(1, 51));
        Checks.refused("setNeutral(1, -51)", x, Checks.ARGUMENT, y -> y.setNeutral(1, -51));
        Checks.refused("setNeutral(6, 51)", x, Checks.INDEX, y -> y.setNeutral(6, 51));
    }

    private static void limits() {
        PlaneServos x = new PlaneServos();
        Checks.due("setLimits(2, -150, 150)", x.setLimits(2, -150, 150), 200);
        Checks.due("setLimits(2, -20, 50)", x.setLimits(2, -20, 50), 300);
        Checks.due("setLimits(2, 0, 0)", x.setLimits(2, 0, 0), 70);
        x.move(2, 100);
        Checks.due("aim(2), limits 0", x.aim(2), 0);
        Checks.undoable("setLimits(2, -20, 50)", x, y -> y.setLimits(2, -20, 50));
        Checks.due("aim(2), high", x.aim(2), 50);
        x.move(2, -100);
        Checks.due("aim(2), low", x.aim(2), -20);
        Checks.refused("setLimits(2, 1, 0)", x, Checks.ARGUMENT, y -> y.setLimits(2, 1, 0));
        Checks.refused("setLimits(2, -151, 0)", x, Checks.ARGUMENT, y -> y.setLimits(2, -151, 0));
        Checks.refused("setLimits(2, 0, -1)", x, Checks.ARGUMENT, y -> y.setLimits(2, 0, -1));
        Checks.refused("setLimits(2, 0, 151)", x, Checks.ARGUMENT, y -> y.setLimits(2, 0, 151));
        Checks.refused("setLimits(6, 0, 151)", x, Checks.INDEX, y -> y.setLimits(6, 0, 151));
    }

    private static void speeds() {
        PlaneServos x = new PlaneServos();
        Checks.due("setSpeed(3, 1)", x.setSpeed(3, 1), 300);
        Checks.due("setSpeed(3, 300)", x.setSpeed(3, 300), 1);
        Checks.due("setSpeed(3, 7)", x.setSpeed(3, 7), 300);
        x.move(3, -20);
        Checks.due("send(2)", x.send(2), 14);
        Checks.due("servoPosition(3)", x.servoPosition(3), -14);
        Checks.due("send(1)", x.send(1), 6);
        Checks.undoable("setSpeed(3, 2)", x, y -> y.setSpeed(3, 2));
        Checks.refused("setSpeed(3, 0)", x, Checks.ARGUMENT, y -> y.setSpeed(3, 0));
        Checks.refused("setSpeed(3, 301)", x, Checks.ARGUMENT, y -> y.setSpeed(3, 301));
        Checks.refused("setSpeed(-1, 301)", x, Checks.INDEX, y -> y.setSpeed(-1, 301));
    }

    private static void failsafeSettings() {
        PlaneServos x = new PlaneServos();
        Checks.due("setFailsafe(4, 1, 150)", x.setFailsafe(4, 1, 150), 0);
        Checks.due("setFailsafe(4, 2, -150)", x.setFailsafe(4, 2, -150), 1);
        Checks.due("setFailsafe(4, 1, -30)", x.setFailsafe(4, 1, -30), 2);
        Checks.due("setFailsafe(5, 0, 9)", x.setFailsafe(5, 0, 9), 0);
        x.lose(5);
        Checks.due("target(4)", x.target(4), -30);
        Checks.due("target(5)", x.target(5), 0);
        Checks.undoable("setFailsafe(4, 0, 1)", x, y -> y.setFailsafe(4, 0, 1));
        Checks.refused("setFailsafe(4, 3, 0)", x, Checks.ARGUMENT, y -> y.setFailsafe(4, 3, 0));
        Checks.refused("setFailsafe(4, -1, 0)", x, Checks.ARGUMENT, y -> y.setFailsafe(4, -1, 0));
        Checks.refused("setFailsafe(4, 0, 151)", x, Checks.ARGUMENT, y -> y.setFailsafe(4, 0, 151));
        Checks.refused("setFailsafe(4, 0, -151)", x, Checks.ARGUMENT, y -> y.setFailsafe(4, 0, -151));
        Checks.refused("setFailsafe(6, 3, 0)", x, Checks.INDEX, y -> y.setFailsafe(6, 3, 0));
    }

    private static void demands() {
        PlaneServos x = new PlaneServos();
        x.addMix(0, 0, 150, 50, 0);
        Checks.due("demand(0), offset alone", x.demand(0), 50);
        x.move(0, 99);
        Checks.due("demand(0)", x.demand(0), 297);
        x.move(0, 100);
        Checks.due("demand(0), just 300", x.demand(0), 300);
        x.setTrim(0, 1);
        Checks.due("demand(0), over 300", x.demand(0), 300);
        x.addMix(0, 1, -150, -50, 0);
        x.addMix(0, 1, -150, -50, 0);
        Checks.due("demand(1), under -300", x.demand(1), -300);
        x.addMix(0, 2, 33, 0, 0);
        x.addMix(0, 2, 33, 0, 0);
        x.move(0, 49);
        Checks.due("demand(2), a division for each mix", x.demand(2), 32);
        x.addMix(0, 3, 33, 0, 1);
        Checks.due("demand(3), a mix that is not active", x.demand(3), 0);
        Checks.quiet("demand(3)", x, y -> y.demand(3));
        sumIsLimitedOnce();
    }

    /** The limit holds for the sum alone, not for a part of it. */
    private static void sumIsLimitedOnce() {
        PlaneServos x = new PlaneServos();
        x.setRate(0, 125);
        x.setTrim(0, 25);
        x.move(0, 100);
        x.addMix(0, 5, 150, 50, 0);
        x.addMix(0, 5, 150, 50, 0);
        Checks.due("demand(5), over 300", x.demand(5), 300);
        x.addMix(0, 5, -150, 0, 0);
        Checks.due("demand(5), of three", x.demand(5), 300);
        x.addMix(0, 5, -100, -50, 0);
        Checks.due("demand(5), of four", x.demand(5), 125);
    }

    private static void demandsThroughServos() {
        PlaneServos x = new PlaneServos();
        x.addMix(5, 5, -50, 0, 0);
        x.addMix(4, 1, 150, 0, 0);
        x.addMix(0, 0, 150, 50, 0);
        x.addMix(0, 0, 150, 50, 0);
        x.move(0, 100);
        x.reverse(0);
        x.setLimits(0, -1, 1);
        x.setNeutral(0, 20);
        Checks.due("demand(0)", x.demand(0), 300);
        Checks.due("demand(1), from a limited demand", x.demand(1), 300);
        x.move(0, -40);
        Checks.due("demand(0), small", x.demand(0), -60);
        Checks.due("demand(1), small", x.demand(1), -90);
        Checks.due("demand(5), through two servos", x.demand(5), 45);
    }

    private static void aimsAndExcesses() {
        PlaneServos x = new PlaneServos();
        x.addMix(0, 0, 150, 50, 0);
        x.addMix(0, 0, 150, 50, 0);
        x.move(0, 100);
        x.setNeutral(0, 50);
        Checks.due("aim(0)", x.aim(0), 100);
        Checks.due("excess(0)", x.excess(0), 250);
        x.reverse(0);
        Checks.due("aim(0), reversed", x.aim(0), -100);
        Checks.due("excess(0), reversed", x.excess(0), -150);
        x.move(0, -25);
        Checks.due("aim(0), within", x.aim(0), 49);
        Checks.due("excess(0), within", x.excess(0), 0);
        x.setLimits(0, -150, 48);
        Checks.due("aim(0), one too much", x.aim(0), 48);
        Checks.due("excess(0), one too much", x.excess(0), 1);
        Checks.quiet("aim(0)", x, y -> y.aim(0));
        Checks.quiet("excess(0)", x, y -> y.excess(0));
    }

    private static void targetsPositionsWear() {
        PlaneServos x = new PlaneServos();
        x.setSpeed(0, 30);
        x.move(0, 100);
        Checks.due("target(0), no frame", x.target(0), 0);
        x.send(1);
        Checks.due("target(0)", x.target(0), 100);
        Checks.due("servoPosition(0)", x.servoPosition(0), 30);
        Checks.due("wear(0)", x.wear(0), 30);
        x.move(0, -100);
        x.setLimits(0, -10, 10);
        Checks.due("target(0), by frames alone", x.target(0), 100);
        Checks.due("servoPosition(0), by frames alone", x.servoPosition(0), 30);
        x.lose(1);
        Checks.due("servoPosition(0), to the old target", x.servoPosition(0), 60);
        x.send(3);
        Checks.due("target(0), limited", x.target(0), -10);
        Checks.due("servoPosition(0), back", x.servoPosition(0), -10);
        Checks.due("wear(0), both ways", x.wear(0), 130);
        Checks.due("wear(1)", x.wear(1), 0);
        Checks.quiet("target(0)", x, y -> y.target(0));
        Checks.quiet("servoPosition(0)", x, y -> y.servoPosition(0));
        Checks.quiet("wear(0)", x, y -> y.wear(0));
    }

    private static void wrongServos() {
        for (int servo : new int[] {-1, 6, Integer.MIN_VALUE, Integer.MAX_VALUE}) {
            PlaneServos x = new PlaneServos();
            String at = "(" + servo + ")";
            Checks.refused("reverse" + at, x, Checks.INDEX, y -> y.reverse(servo));
            Checks.refused("setNeutral" + at, x, Checks.INDEX, y -> y.setNeutral(servo, 0));
            Checks.refused("setLimits" + at, x, Checks.INDEX, y -> y.setLimits(servo, 0, 0));
            Checks.refused("setSpeed" + at, x, Checks.INDEX, y -> y.setSpeed(servo, 1));
            Checks.refused("setFailsafe" + at, x, Checks.INDEX, y -> y.setFailsafe(servo, 0, 0));
            Checks.refused("demand" + at, x, Checks.INDEX, y -> y.demand(servo));
            Checks.refused("aim" + at, x, Checks.INDEX, y -> y.aim(servo));
            Checks.refused("excess" + at, x, Checks.INDEX, y -> y.excess(servo));
            Checks.refused("target" + at, x, Checks.INDEX, y -> y.target(servo));
            Checks.refused("servoPosition" + at, x, Checks.INDEX, y -> y.servoPosition(servo));
            Checks.refused("wear" + at, x, Checks.INDEX, y -> y.wear(servo));
        }
    }
}
