/** Promise 1: a new object, and the constants. */
public final class NewObjectTest {
    public static void main(String[] args) {
        PlaneServos x = new PlaneServos();
        Checks.due("NONE", PlaneServos.NONE, -1);
        sticks(x);
        x.switchRates();
        sticks(x);
        mixes();
        servos();
        link();
        texts();
        Checks.finish("NewObjectTest");
    }

    private static void sticks(PlaneServos x) {
        for (int stick = 0; stick < 4; stick++) {
            Checks.due("new position", x.position(stick), 0);
            Checks.due("new expo", x.expo(stick), 0);
            Checks.due("new rate", x.rate(stick), 100);
            Checks.due("new trim", x.trim(stick), 0);
            Checks.due("new command", x.command(stick), 0);
        }
    }

    private static void mixes() {
        PlaneServos x = new PlaneServos();
        Checks.due("new isHigh()", x.isHigh(), true);
        Checks.due("new isCut()", x.isCut(), false);
        Checks.due("new mixes()", x.mixes(), 4);
        for (int mix = 0; mix < 4; mix++) {
            Checks.due("new mixSource", x.mixSource(mix), mix);
            Checks.due("new mixServo", x.mixServo(mix), mix);
            Checks.due("new mixValue", x.mixValue(mix), 0);
            Checks.due("new isActive", x.isActive(mix), true);
            x.move(mix, 100);
            Checks.due("new share", x.mixValue(mix), 100);
        }
        x.switchRates();
        Checks.due("new condition", x.isActive(0), true);
    }

    private static void servos() {
        for (int servo = 0; servo < 6; servo++) {
            PlaneServos x = new PlaneServos();
            Checks.due("new demand", x.demand(servo), 0);
            Checks.due("new aim", x.aim(servo), 0);
            Checks.due("new target", x.target(servo), 0);
            Checks.due("new servoPosition", x.servoPosition(servo), 0);
            Checks.due("new wear", x.wear(servo), 0);
            Checks.due("new neutral", x.setNeutral(servo, 1), 0);
            Checks.due("new limits", x.setLimits(servo, -1, 1), 200);
            Checks.due("new speed", x.setSpeed(servo, 1), 300);
            Checks.due("new mode", x.setFailsafe(servo, 1, 1), 0);
            Checks.due("new reversal", x.reverse(servo), true);
            limitsOnBothSides(servo);
        }
    }

    private static void limitsOnBothSides(int servo) {
        PlaneServos x = new PlaneServos();
        x.addMix(0, servo, 150, 50, 0);
        x.move(0, 100);
        Checks.due("new high limit", x.aim(servo), 100);
        x.move(0, -100);
        x.addMix(0, servo, 150, -50, 0);
        Checks.due("new low limit", x.aim(servo), -100);
    }

    private static void link() {
        PlaneServos x = new PlaneServos();
        Checks.due("new battery()", x.battery(), 20000);
        Checks.due("new charged()", x.charged(), 0);
        Checks.due("new frames()", x.frames(), 0);
        Checks.due("new lostFrames()", x.lostFrames(), 0);
        Checks.due("new deadFrames()", x.deadFrames(), 0);
        Checks.due("new lostInRow()", x.lostInRow(), 0);
        Checks.due("new isFailsafe()", x.isFailsafe(), false);
        Checks.due("new failsafes()", x.failsafes(), 0);
        Checks.due("new delay", x.setDelay(9), 5);
    }

    private static void texts() {
        PlaneServos x = new PlaneServos();
        Checks.due("new firstError()", x.firstError(), 0);
        Checks.due("new clearText()", x.clearText(), 0);
        Checks.due("new savedStates()", x.savedStates(), 0);
        Checks.refused("new undo()", x, Checks.STATE, y -> y.undo());
        Checks.refused("new recall(0)", x, Checks.STATE, y -> y.recall(0));
        Checks.refused("new recall(1)", x, Checks.STATE, y -> y.recall(1));
    }
}
