/** Promises 15 to 23: mixes. */
public final class MixesTest {
    public static void main(String[] args) {
        adds();
        refusesAdds();
        removes();
        clears();
        elevonPairs();
        refusesElevons();
        valuesAndConditions();
        wrongMixes();
        Checks.finish("MixesTest");
    }

    private static PlaneServos full() {
        PlaneServos x = new PlaneServos();
        for (int mix = 4; mix < 12; mix++) {
            x.addMix(0, 5, 1, mix, 0);
        }
        return x;
    }

    private static void adds() {
        PlaneServos x = new PlaneServos();
        Checks.due("addMix(3, 0, 150, 50, 2)", x.addMix(3, 0, 150, 50, 2), 4);
        Checks.due("addMix(4, 1, -150, -50, 1)", x.addMix(4, 1, -150, -50, 1), 5);
        Checks.due("addMix(8, 5, 1, 0, 0)", x.addMix(8, 5, 1, 0, 0), 6);
        Checks.due("mixes()", x.mixes(), 7);
        Checks.due("mixSource(4)", x.mixSource(4), 3);
        Checks.due("mixServo(4)", x.mixServo(4), 0);
        Checks.due("mixSource(5)", x.mixSource(5), 4);
        Checks.due("mixServo(5)", x.mixServo(5), 1);
        Checks.due("mixSource(6)", x.mixSource(6), 8);
        Checks.due("mixServo(6)", x.mixServo(6), 5);
        Checks.undoable("addMix(0, 0, -1, 0, 0)", x, y -> y.addMix(0, 0, -1, 0, 0));
        Checks.due("the last mix of a full radio", full().mixes(), 12);
        for (int servo = 0; servo < 6; servo++) {
            for (int source = 0; source < 4 + servo; source++) {
                Checks.due("addMix of a source below", new PlaneServos().addMix(source, servo, 1, 0, 0), 4);
            }
        }
    }

    private static void refusesAdds() {
        PlaneServos x = full();
        for (int servo : new int[] {-1, 6, Integer.MIN_VALUE, Integer.MAX_VALUE}) {
            Checks.refused("addMix, servo " + servo, x, Checks.INDEX, y -> y.addMix(-1, servo, 0, 99, 9));
        }
        Checks.refused("addMix when full", x, Checks.STATE, y -> y.addMix(0, 0, 1, 0, 0));
        refusedArguments(x);
        refusedArguments(new PlaneServos());
    }

    private static void refusedArguments(PlaneServos x) {
        int[][] wrong = {
            {-1, 0, 1, 0, 0}, {10, 5, 1, 0, 0}, {Integer.MAX_VALUE, 5, 1, 0, 0}, {Integer.MIN_VALUE, 5, 1, 0, 0},
            {0, 0, 0, 0, 0}, {0, 0, 151, 0, 0}, {0, 0, -151, 0, 0}, {0, 0, 1, 51, 0}, {0, 0, 1, -51, 0},
            {0, 0, 1, 0, -1}, {0, 0, 1, 0, 3}};
        for (int[] a : wrong) {
            Checks.refused("addMix(" + a[0] + ", " + a[1] + ", " + a[2] + ", " + a[3] + ", " + a[4] + ")", x,
                Checks.ARGUMENT, y -> y.addMix(a[0], a[1], a[2], a[3], a[4]));
        }
        for (int servo = 0; servo < 6; servo++) {
            int at = servo;
            Checks.refused("addMix from itself", x, Checks.ARGUMENT, y -> y.addMix(4 + at, at, 1, 0, 0));
            Checks.refused("addMix from the last servo", x, Checks.ARGUMENT, y -> y.addMix(9, at, 1, 0, 0));
        }
    }

    private static void removes() {
        PlaneServos x = new PlaneServos();
        x.addMix(1, 4, 50, 10, 1);
        Checks.due("removeMix(1)", x.removeMix(1), 4);
        Checks.due("mixSource(0)", x.mixSource(0), 0);
        Checks.due("mixSource(1)", x.mixSource(1), 2);
        Checks.due("mixServo(1)", x.mixServo(1), 2);
        Checks.due("mixSource(3)", x.mixSource(3), 1);
        Checks.due("mixServo(3)", x.mixServo(3), 4);
        Checks.due("isActive(3)", x.isActive(3), false);
        x.switchRates();
        x.move(1, 80);
        Checks.due("mixValue(3)", x.mixValue(3), 50);
        Checks.undoable("removeMix(0)", x, y -> y.removeMix(0));
        Checks.due("removeMix of the last", x.removeMix(2), 2);
        Checks.due("removeMix(0), two left", x.removeMix(0), 1);
        Checks.due("removeMix(0), one left", x.removeMix(0), 0);
        Checks.refused("removeMix(0), none left", x, Checks.INDEX, y -> y.removeMix(0));
        Checks.due("addMix after all are gone", x.addMix(3, 5, 150, -50, 2), 0);
        Checks.due("removeMix(11), full", full().removeMix(11), 11);
    }

    private static void clears() {
        PlaneServos x = new PlaneServos();
        x.addMix(1, 2, 50, 0, 1);
        x.addMix(2, 3, 50, 0, 2);
        x.addMix(3, 2, 50, 0, 2);
        Checks.undoable("clearMixes(2)", x, y -> Checks.due("clearMixes(2)", y.clearMixes(2), 3));
        Checks.due("mixes()", x.mixes(), 4);
        Checks.due("mixSource(2)", x.mixSource(2), 3);
        Checks.due("mixServo(2)", x.mixServo(2), 3);
        Checks.due("mixSource(3)", x.mixSource(3), 2);
        Checks.due("mixServo(3)", x.mixServo(3), 3);
        x.move(2, 50);
        Checks.due("mixValue(3)", x.mixValue(3), 25);
        Checks.undoable("clearMixes(2), none", x, y -> Checks.due("clearMixes(2), none", y.clearMixes(2), 0));
        Checks.due("clearMixes(3)", x.clearMixes(3), 2);
        Checks.due("demand(3)", x.demand(3), 0);
        for (int servo : new int[] {-1, 6, Integer.MIN_VALUE, Integer.MAX_VALUE}) {
            Checks.refused("clearMixes(" + servo + ")", x, Checks.INDEX, y -> y.clearMixes(servo));
        }
        Checks.due("clearMixes(5), full", full().clearMixes(5), 8);
    }

    private static void elevonPairs() {
        PlaneServos x = new PlaneServos();
        Checks.undoable("elevons(5, 4, 150)", x, y -> Checks.due("elevons(5, 4, 150)", y.elevons(5, 4, 150), 8));
        int[] sources = {0, 1, 0, 1};
        int[] servos = {5, 5, 4, 4};
        for (int i = 0; i < 4; i++) {
            Checks.due("elevons: mixSource", x.mixSource(4 + i), sources[i]);
            Checks.due("elevons: mixServo", x.mixServo(4 + i), servos[i]);
            Checks.due("elevons: isActive", x.isActive(4 + i), true);
        }
        x.move(0, 60);
        x.move(1, 20);
        Checks.due("elevons: left", x.demand(5), 120);
        Checks.due("elevons: right", x.demand(4), -60);
        x.switchRates();
        Checks.due("elevons: left, low", x.demand(5), 120);
        Checks.due("elevons(0, 1, 1)", x.elevons(0, 1, 1), 12);
    }

    private static void refusesElevons() {
        PlaneServos x = full();
        Checks.refused("elevons(-1, 0, 0)", x, Checks.INDEX, y -> y.elevons(-1, 0, 0));
        Checks.refused("elevons(0, 6, 151)", x, Checks.INDEX, y -> y.elevons(0, 6, 151));
        Checks.refused("elevons(6, 6, 1)", x, Checks.INDEX, y -> y.elevons(6, 6, 1));
        Checks.refused("elevons(0, 0, 1)", x, Checks.ARGUMENT, y -> y.elevons(0, 0, 1));
        Checks.refused("elevons(0, 1, 0)", x, Checks.ARGUMENT, y -> y.elevons(0, 1, 0));
        Checks.refused("elevons(0, 1, -1)", x, Checks.ARGUMENT, y -> y.elevons(0, 1, -1));
        Checks.refused("elevons(0, 1, 151)", x, Checks.ARGUMENT, y -> y.elevons(0, 1, 151));
        Checks.refused("elevons(0, 1, 1), full", x, Checks.STATE, y -> y.elevons(0, 1, 1));
        x.removeMix(11);
        x.removeMix(10);
        x.removeMix(9);
        Checks.refused("elevons(0, 1, 1), nine mixes", x, Checks.STATE, y -> y.elevons(0, 1, 1));
        x.removeMix(8);
        Checks.due("elevons(0, 1, 1), eight mixes", x.elevons(0, 1, 1), 12);
    }

    private static void valuesAndConditions() {
        PlaneServos x = new PlaneServos();
        x.addMix(0, 4, 33, 7, 1);
        x.addMix(0, 4, -33, -7, 2);
        x.addMix(8, 5, 150, 50, 0);
        x.move(0, -50);
        Checks.due("mixValue(4), high", x.mixValue(4), 0);
        Checks.due("mixValue(5), high", x.mixValue(5), 9);
        Checks.due("isActive(4), high", x.isActive(4), false);
        Checks.due("isActive(5), high", x.isActive(5), true);
        Checks.due("isActive(6), high", x.isActive(6), true);
        Checks.due("mixValue(6), high", x.mixValue(6), 63);
        x.switchRates();
        Checks.due("mixValue(4), low", x.mixValue(4), -9);
        Checks.due("mixValue(5), low", x.mixValue(5), 0);
        Checks.due("isActive(4), low", x.isActive(4), true);
        Checks.due("isActive(5), low", x.isActive(5), false);
        Checks.due("isActive(6), low", x.isActive(6), true);
        Checks.due("mixValue(6), low", x.mixValue(6), 37);
        Checks.quiet("mixValue(6)", x, y -> y.mixValue(6));
        Checks.quiet("isActive(6)", x, y -> y.isActive(6));
    }

    private static void wrongMixes() {
        PlaneServos x = new PlaneServos();
        for (int mix : new int[] {-1, 4, 12, Integer.MIN_VALUE, Integer.MAX_VALUE}) {
            Checks.refused("removeMix(" + mix + ")", x, Checks.INDEX, y -> y.removeMix(mix));
            Checks.refused("mixSource(" + mix + ")", x, Checks.INDEX, y -> y.mixSource(mix));
            Checks.refused("mixServo(" + mix + ")", x, Checks.INDEX, y -> y.mixServo(mix));
            Checks.refused("mixValue(" + mix + ")", x, Checks.INDEX, y -> y.mixValue(mix));
            Checks.refused("isActive(" + mix + ")", x, Checks.INDEX, y -> y.isActive(mix));
        }
        PlaneServos full = full();
        Checks.due("mixSource(11)", full.mixSource(11), 0);
        Checks.refused("mixSource(12)", full, Checks.INDEX, y -> y.mixSource(12));
    }
}
