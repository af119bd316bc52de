/** Promise 62: digest. */
public final class DigestTest {
    private static long hash;

    public static void main(String[] args) {
        digestDue("new", new PlaneServos());
        for (int steps = 1; steps <= 7; steps++) {
            digestDue("after step " + steps, after(steps));
        }
        Checks.quiet("digest()", after(7), y -> y.digest());
        freshAnswers();
        buffersAndMemoriesAreNoPart(after(7));
        deadFrames();
        Checks.finish("DigestTest");
    }

    /** A radio in which more and more of what the hash has is not as in a new one. */
    private static PlaneServos after(int steps) {
        PlaneServos x = new PlaneServos();
        for (int step = 1; step <= steps; step++) {
            make(step, x);
        }
        return x;
    }

    private static void make(int step, PlaneServos x) {
        switch (step) {
            case 1:
                x.move(0, 77);
                x.setExpo(0, 31);
                x.setRate(1, 110);
                x.setTrim(2, -9);
                break;
            case 2:
                x.switchRates();
                break;
            case 3:
                x.cutThrottle(true);
                break;
            case 4:
                x.addMix(0, 4, 70, 3, 1);
                x.addMix(8, 5, -70, 3, 2);
                break;
            case 5:
                x.reverse(1);
                x.setSpeed(0, 10);
                x.send(3);
                break;
            case 6:
                x.charge();
                x.lose(7);
                break;
            default:
                x.send(50);
        }
    }

    private static void freshAnswers() {
        PlaneServos x = new PlaneServos();
        x.move(3, 60);
        long before = x.digest();
        x.bestTrim(3, 3);
        x.aimIfMoved(3, -60, 3);
        Checks.due("digest() after forecasts", x.digest(), before);
        x.move(3, 61);
        x.move(3, 60);
        Checks.due("digest() after move back", x.digest(), before);
        digestDue("moved", x);
    }

    private static void buffersAndMemoriesAreNoPart(PlaneServos x) {
        long before = x.digest();
        x.append('s');
        x.store(0);
        x.recall(0);
        Checks.due("digest() after append, store and recall", x.digest(), before);
    }

    private static void deadFrames() {
        PlaneServos x = Radio.withBattery(9);
        x.lose(50);
        digestDue("dead frames", x);
    }

    private static void next(long value) {
        hash = 31 * hash + value;
    }

    /** Makes the hash from what the other calls answer. */
    private static void digestDue(String of, PlaneServos x) {
        hash = 4366;
        for (int stick = 0; stick < 4; stick++) {
            next(x.position(stick));
            next(x.expo(stick));
            next(x.rate(stick));
            next(x.trim(stick));
            next(x.command(stick));
        }
        next(x.isHigh() ? 1 : 0);
        next(x.isCut() ? 1 : 0);
        next(x.mixes());
        for (int mix = 0; mix < x.mixes(); mix++) {
            next(x.mixSource(mix));
            next(x.mixServo(mix));
            next(x.mixValue(mix));
        }
        for (int servo = 0; servo < 6; servo++) {
            next(x.demand(servo));
            next(x.aim(servo));
            next(x.target(servo));
            next(x.servoPosition(servo));
            next(x.wear(servo));
        }
        next(x.battery());
        next(x.charged());
        next(x.frames());
        next(x.lostFrames());
        next(x.deadFrames());
        next(x.lostInRow());
        next(x.failsafes());
        Checks.due("digest(), " + of, x.digest(), hash);
    }
}
