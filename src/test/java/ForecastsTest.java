/** Promises 47 to 53: forecasts. */
public final class ForecastsTest {
    public static void main(String[] args) {
        reasons();
        freshAnswers();
        reasonOfAnEmptyBattery();
        framesToAim();
        aimsIfMoved();
        drivenServos();
        bestTrims();
        mostWorn();
        linkQuality();
        wrongNumbers();
        Checks.finish("ForecastsTest");
    }

    private static void reasons() {
        PlaneServos x = new PlaneServos();
        Checks.due("reason(0), at its aim", x.reason(0), 0);
        x.move(0, 50);
        Checks.due("reason(0), no frame", x.reason(0), 4);
        x.setSpeed(0, 1);
        x.send(1);
        Checks.due("reason(0), slow", x.reason(0), 4);
        x.lose(1);
        Checks.due("reason(0), lost", x.reason(0), 3);
        Checks.due("reason(1), at its aim", x.reason(1), 0);
        x.lose(4);
        Checks.due("reason(0), failsafe", x.reason(0), 2);
        x.setDelay(50);
        Checks.due("reason(0), failsafe in the latest frame", x.reason(0), 2);
        x.lose(1);
        Checks.due("reason(0), lost again", x.reason(0), 3);
        x.move(0, x.servoPosition(0));
        Checks.due("reason(0), lost but at its aim", x.reason(0), 0);
        Checks.quiet("reason(0)", x, y -> y.reason(0));
    }

    /** What was asked before must not matter. */
    private static void freshAnswers() {
        PlaneServos x = new PlaneServos();
        x.move(0, 50);
        Checks.due("reason(0) after move", x.reason(0), 4);
        x.send(1);
        x.move(0, 0);
        Checks.due("reason(0) after move back", x.reason(0), 4);
        x.move(0, 20);
        Checks.due("framesToAim(0) after move", x.framesToAim(0), 1);
        x.move(0, 50);
        Checks.due("framesToAim(0) after move back", x.framesToAim(0), 0);
        x.aimIfMoved(0, 10, 0);
        Checks.due("reason(0) after aimIfMoved", x.reason(0), 0);
        x.bestTrim(0, 0);
        Checks.due("framesToAim(0) after bestTrim", x.framesToAim(0), 0);
        x.bestTrim(0, 0);
        Checks.due("aim(0) after bestTrim", x.aim(0), 50);
        x.bestTrim(0, 0);
        Checks.due("demand(0) after bestTrim", x.demand(0), 50);
        x.bestTrim(0, 0);
        Checks.due("excess(0) after bestTrim", x.excess(0), 0);
        x.setLimits(0, -10, 10);
        x.bestTrim(0, 0);
        Checks.due("excess(0) after bestTrim, limited", x.excess(0), 40);
        x.setLimits(0, -100, 100);
        x.addMix(4, 5, 100, 0, 0);
        x.bestTrim(0, 0);
        Checks.due("mixValue(4) after bestTrim", x.mixValue(4), 50);
        x.bestTrim(0, 0);
        Checks.due("send(1) after bestTrim", x.send(1), 50);
    }

    private static void reasonOfAnEmptyBattery() {
        PlaneServos x = Radio.withBattery(0);
        Checks.due("reason(0), at its aim", x.reason(0), 0);
        x.move(0, 1);
        Checks.due("reason(0), empty after a received frame", x.reason(0), 1);
        x.lose(50);
        Checks.due("reason(0), empty and failsafe", x.reason(0), 1);
        x.charge();
        Checks.due("reason(0), charged", x.reason(0), 2);
    }

    private static void framesToAim() {
        PlaneServos x = new PlaneServos();
        Checks.due("framesToAim(0), at its aim", x.framesToAim(0), 0);
        x.move(0, 100);
        Checks.due("framesToAim(0), fast", x.framesToAim(0), 1);
        x.setSpeed(0, 100);
        Checks.due("framesToAim(0), just one", x.framesToAim(0), 1);
        x.setSpeed(0, 99);
        Checks.due("framesToAim(0), not quite one", x.framesToAim(0), 2);
        x.setSpeed(0, 1);
        Checks.due("framesToAim(0), slow", x.framesToAim(0), 100);
        x.send(30);
        x.move(0, -100);
        x.setSpeed(0, 7);
        Checks.due("framesToAim(0), back", x.framesToAim(0), 19);
        x.setFailsafe(0, 2, 0);
        x.lose(50);
        Checks.due("framesToAim(0), in the failsafe", x.framesToAim(0), 23);
        x.send(22);
        Checks.due("framesToAim(0), the last", x.framesToAim(0), 1);
        x.send(1);
        Checks.due("framesToAim(0), there", x.framesToAim(0), 0);
        Checks.quiet("framesToAim(0)", x, y -> y.framesToAim(0));
        withoutTheBattery();
    }

    private static void withoutTheBattery() {
        PlaneServos x = Radio.withBattery(0);
        x.setSpeed(3, 10);
        x.move(0, 25);
        Checks.due("framesToAim(3), empty", x.framesToAim(3), 3);
    }

    private static void aimsIfMoved() {
        PlaneServos x = new PlaneServos();
        x.setExpo(0, 50);
        x.setTrim(0, 7);
        x.addMix(4, 5, -100, 10, 0);
        Checks.due("aimIfMoved(0, 50, 0)", x.aimIfMoved(0, 50, 0), 38);
        Checks.due("aimIfMoved(0, 50, 5)", x.aimIfMoved(0, 50, 5), -28);
        Checks.due("aimIfMoved(0, 50, 1)", x.aimIfMoved(0, 50, 1), 0);
        Checks.due("aimIfMoved(0, 100, 0), limited", x.aimIfMoved(0, 100, 0), 100);
        Checks.due("aimIfMoved(0, -100, 0)", x.aimIfMoved(0, -100, 0), -93);
        x.cutThrottle(true);
        Checks.due("aimIfMoved(2, 100, 2), cut", x.aimIfMoved(2, 100, 2), -100);
        Checks.quiet("aimIfMoved(0, 100, 0)", x, y -> y.aimIfMoved(0, 100, 0));
        Checks.refused("aimIfMoved(0, 101, 0)", x, Checks.ARGUMENT, y -> y.aimIfMoved(0, 101, 0));
        Checks.refused("aimIfMoved(0, -101, 0)", x, Checks.ARGUMENT, y -> y.aimIfMoved(0, -101, 0));
        Checks.refused("aimIfMoved(4, 101, 0)", x, Checks.INDEX, y -> y.aimIfMoved(4, 101, 0));
        Checks.refused("aimIfMoved(0, 101, 6)", x, Checks.INDEX, y -> y.aimIfMoved(0, 101, 6));
    }

    private static void drivenServos() {
        PlaneServos x = new PlaneServos();
        for (int stick = 0; stick < 4; stick++) {
            Checks.due("drivenBy(" + stick + ")", x.drivenBy(stick), 1 << stick);
        }
        x.addMix(8, 5, 1, 0, 1);
        x.addMix(4, 4, 1, 0, 0);
        Checks.due("drivenBy(0), high", x.drivenBy(0), 0b010001);
        x.switchRates();
        Checks.due("drivenBy(0), low", x.drivenBy(0), 0b110001);
        Checks.due("drivenBy(1), low", x.drivenBy(1), 0b000010);
        x.cutThrottle(true);
        x.addMix(2, 5, 1, 0, 0);
        Checks.due("drivenBy(2), cut", x.drivenBy(2), 0b100100);
        x.clearMixes(2);
        x.clearMixes(5);
        Checks.due("drivenBy(2), none", x.drivenBy(2), 0);
        x.setRate(0, 0);
        Checks.due("drivenBy(0), rate 0", x.drivenBy(0), 0b010001);
        x.clearMixes(0);
        Checks.due("drivenBy(0), the way is cut", x.drivenBy(0), 0);
        Checks.quiet("drivenBy(0)", x, y -> y.drivenBy(0));
    }

    private static void bestTrims() {
        PlaneServos x = new PlaneServos();
        Checks.due("bestTrim(0, 0)", x.bestTrim(0, 0), 100);
        x.setNeutral(0, 10);
        Checks.due("bestTrim(0, 0), neutral 10", x.bestTrim(0, 0), 90);
        x.setTrim(0, 25);
        x.setNeutral(0, 1);
        Checks.due("bestTrim(0, 0), neutral 1", x.bestTrim(0, 0), 99);
        x.setNeutral(0, -1);
        Checks.due("bestTrim(0, 0), neutral -1", x.bestTrim(0, 0), 101);
        x.setNeutral(0, 10);
        Checks.due("bestTrim(0, 0), another trim set", x.bestTrim(0, 0), 90);
        Checks.due("trim(0)", x.trim(0), 25);
        x.reverse(0);
        Checks.due("bestTrim(0, 0), reversed", x.bestTrim(0, 0), 110);
        x.setNeutral(0, 50);
        Checks.due("bestTrim(0, 0), out of reach", x.bestTrim(0, 0), 125);
        x.reverse(0);
        Checks.due("bestTrim(0, 0), out of reach below", x.bestTrim(0, 0), 75);
        Checks.due("bestTrim(0, 1), not driven", x.bestTrim(0, 1), 100);
        x.switchRates();
        x.move(0, -60);
        Checks.due("bestTrim(0, 0), low", x.bestTrim(0, 0), 110);
        x.cutThrottle(true);
        Checks.due("bestTrim(2, 2), cut", x.bestTrim(2, 2), 100);
        Checks.quiet("bestTrim(0, 0)", x, y -> y.bestTrim(0, 0));
        tiesOfTrims();
    }

    private static void tiesOfTrims() {
        PlaneServos x = new PlaneServos();
        x.clearMixes(0);
        x.addMix(0, 0, 1, 0, 0);
        x.setTrim(0, -25);
        Checks.due("bestTrim(0, 0), all the same", x.bestTrim(0, 0), 100);
        PlaneServos y = new PlaneServos();
        y.clearMixes(4);
        y.addMix(0, 4, 10, 1, 0);
        Checks.due("bestTrim(0, 4), the nearest of ten", y.bestTrim(0, 4), 90);
        PlaneServos z = new PlaneServos();
        z.move(0, 2);
        z.setLimits(0, -100, 0);
        Checks.due("bestTrim(0, 0), limited to 0", z.bestTrim(0, 0), 100);
        PlaneServos steep = new PlaneServos();
        steep.clearMixes(0);
        steep.addMix(0, 0, 150, 0, 0);
        steep.addMix(0, 0, 150, 0, 0);
        steep.setNeutral(0, 1);
        Checks.due("bestTrim(0, 0), 0 as good as -1 and better than 1", steep.bestTrim(0, 0), 100);
        Checks.due("bestTrim(0, 5), two of the same size", evenInTheTrim(0).bestTrim(0, 5), 109);
        Checks.due("bestTrim(0, 5), a positive one better", evenInTheTrim(12).bestTrim(0, 5), 111);
        Checks.due("bestTrim(0, 5), a negative one better", evenInTheTrim(-12).bestTrim(0, 5), 89);
    }

    /**
     * The servo 3 has 300 plus the trim, the servo 4 has -300 plus the trim, and both are limited, so that half
     * their difference falls with the size of the trim, whatever its sign. It is 5 at the trim 0 and 0 at 9 and -9.
     */
    static PlaneServos evenInTheTrim(int addedShare) {
        PlaneServos x = new PlaneServos();
        for (int servo = 0; servo < 4; servo++) {
            x.clearMixes(servo);
        }
        x.move(1, 100);
        for (int i = 0; i < 2; i++) {
            x.addMix(1, 3, 150, 0, 0);
            x.addMix(1, 4, -150, 0, 0);
            x.addMix(1, 5, -150, 0, 0);
        }
        x.addMix(0, 3, 100, 0, 0);
        x.addMix(0, 4, 100, 0, 0);
        x.addMix(7, 5, 50, 0, 0);
        x.addMix(8, 5, -50, 5, 0);
        if (addedShare != 0) {
            // From 9 on this takes 1 from one side and gives it to the other.
            x.addMix(0, 5, addedShare, 0, 0);
        }
        return x;
    }

    private static void mostWorn() {
        PlaneServos x = new PlaneServos();
        Checks.due("mostWorn(), none", x.mostWorn(), PlaneServos.NONE);
        x.lose(50);
        Checks.due("mostWorn(), none moved", x.mostWorn(), PlaneServos.NONE);
        x.move(3, 1);
        x.send(1);
        Checks.due("mostWorn(), the last one", x.mostWorn(), 3);
        x.move(1, -1);
        x.send(1);
        Checks.due("mostWorn(), the lowest of two", x.mostWorn(), 1);
        x.move(2, 5);
        x.send(1);
        Checks.due("mostWorn(), the greatest", x.mostWorn(), 2);
        Checks.quiet("mostWorn()", x, y -> y.mostWorn());
        x.move(0, 5);
        x.send(1);
        Checks.due("mostWorn(), the servo 0", x.mostWorn(), 0);
        PlaneServos z = new PlaneServos();
        z.addMix(0, 5, 100, 0, 0);
        z.clearMixes(0);
        z.move(0, 1);
        z.send(1);
        Checks.due("mostWorn(), servo 5", z.mostWorn(), 5);
    }

    private static void linkQuality() {
        PlaneServos x = new PlaneServos();
        Checks.due("linkQuality(), no frame", x.linkQuality(), 1.0);
        x.send(1);
        Checks.due("linkQuality(), all received", x.linkQuality(), 1.0);
        x.lose(2);
        Checks.due("linkQuality(), a third", x.linkQuality(), 1.0 / 3.0);
        x.send(4);
        Checks.due("linkQuality(), five of seven", x.linkQuality(), 5.0 / 7.0);
        Checks.quiet("linkQuality()", x, y -> y.linkQuality());
        PlaneServos z = new PlaneServos();
        z.lose(9);
        Checks.due("linkQuality(), none received", z.linkQuality(), 0.0);
    }

    private static void wrongNumbers() {
        PlaneServos x = new PlaneServos();
        for (int number : new int[] {-1, 6, Integer.MIN_VALUE, Integer.MAX_VALUE}) {
            String at = "(" + number + ")";
            Checks.refused("reason" + at, x, Checks.INDEX, y -> y.reason(number));
            Checks.refused("framesToAim" + at, x, Checks.INDEX, y -> y.framesToAim(number));
            Checks.refused("aimIfMoved, servo " + number, x, Checks.INDEX, y -> y.aimIfMoved(0, 0, number));
            Checks.refused("aimIfMoved, stick " + number, x, Checks.INDEX, y -> y.aimIfMoved(number, 0, 0));
            Checks.refused("drivenBy" + at, x, Checks.INDEX, y -> y.drivenBy(number));
            Checks.refused("bestTrim, servo " + number, x, Checks.INDEX, y -> y.bestTrim(0, number));
            Checks.refused("bestTrim, stick " + number, x, Checks.INDEX, y -> y.bestTrim(number, 0));
        }
        Checks.refused("drivenBy(4)", x, Checks.INDEX, y -> y.drivenBy(4));
        Checks.refused("bestTrim(4, 0)", x, Checks.INDEX, y -> y.bestTrim(4, 0));
        Checks.refused("aimIfMoved(4, 0, 0)", x, Checks.INDEX, y -> y.aimIfMoved(4, 0, 0));
    }
}
