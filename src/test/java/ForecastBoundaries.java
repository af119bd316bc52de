import java.util.function.Supplier;

/** Promises 47 to 53, sentence by sentence. */
final class ForecastBoundaries {
    private static final String NO_SERVO = "Throws `IndexOutOfBoundsException` if there is no such servo";
    private static final String NO_STICK_OR_SERVO =
        "Throws `IndexOutOfBoundsException` if there is no such stick or servo";

    private ForecastBoundaries() {
    }

    static void test() {
        wrongNumbers();
        rightServos();
        rightSticks();
        reasons();
        framesToAim();
        aimsIfMoved();
        drivenServos();
        edgesOfTrims();
        bestTrims();
        mostWorn();
        linkQuality();
        changeNothing();
    }

    private static void wrongNumbers() {
        Boundary.refuses(47, NO_SERVO, Checks.INDEX, 0, 5, (x, servo) -> x.reason(servo));
        Boundary.refuses(48, NO_SERVO, Checks.INDEX, 0, 5, (x, servo) -> x.framesToAim(servo));
        Boundary.refuses(49, NO_STICK_OR_SERVO, Checks.INDEX, 0, 3, (x, stick) -> x.aimIfMoved(stick, 0, 0));
        Boundary.refuses(49, NO_STICK_OR_SERVO, Checks.INDEX, 0, 5, (x, servo) -> x.aimIfMoved(0, 0, servo));
        Boundary.refuses(49, "Throws `IllegalArgumentException` if position is out of range", Checks.ARGUMENT, -100,
            100, (x, position) -> x.aimIfMoved(0, position, 0));
        Boundary.refuses(50, "Throws `IndexOutOfBoundsException` if there is no such stick", Checks.INDEX, 0, 3,
            (x, stick) -> x.drivenBy(stick));
        Boundary.refuses(51, NO_STICK_OR_SERVO, Checks.INDEX, 0, 3, (x, stick) -> x.bestTrim(stick, 0));
        Boundary.refuses(51, NO_STICK_OR_SERVO, Checks.INDEX, 0, 5, (x, servo) -> x.bestTrim(0, servo));
        for (Radio radio : Radio.values()) {
            Supplier<PlaneServos> from = radio::make;
            Boundary.throwsFirst(49, Checks.INDEX, "aimIfMoved(4, 101, 0)", from, x -> x.aimIfMoved(4, 101, 0));
            Boundary.throwsFirst(49, Checks.INDEX, "aimIfMoved(-1, -101, 0)", from, x -> x.aimIfMoved(-1, -101, 0));
            Boundary.throwsFirst(49, Checks.INDEX, "aimIfMoved(0, 101, 6)", from, x -> x.aimIfMoved(0, 101, 6));
            Boundary.throwsFirst(49, Checks.INDEX, "aimIfMoved(0, -101, -1)", from, x -> x.aimIfMoved(0, -101, -1));
        }
    }

    private static void rightServos() {
        for (int number = 0; number < 6; number++) {
            int servo = number;
            Boundary.test(47, "`servo`: 0 to 5", () -> {
                PlaneServos x = new PlaneServos();
                x.setNeutral(servo, 1);
                for (int other = 0; other < 6; other++) {
                    Checks.due("reason(" + other + ")", x.reason(other), other == servo ? 4 : 0);
                }
            });
            Boundary.test(48, "`servo`: 0 to 5", () -> {
                PlaneServos x = new PlaneServos();
                x.setNeutral(servo, 1);
                for (int other = 0; other < 6; other++) {
                    Checks.due("framesToAim(" + other + ")", x.framesToAim(other), other == servo ? 1 : 0);
                }
            });
            Boundary.test(49, "`servo`: 0 to 5", () -> {
                PlaneServos x = new PlaneServos();
                x.setNeutral(servo, 10 + servo);
                for (int other = 0; other < 6; other++) {
                    Checks.due("aimIfMoved(0, 20, " + other + ")", x.aimIfMoved(0, 20, other),
                        (other == 0 ? 20 : 0) + (other == servo ? 10 + servo : 0));
                }
            });
            Boundary.test(51, "`servo`: 0 to 5", () -> {
                PlaneServos x = new PlaneServos();
                x.clearMixes(servo);
                x.addMix(3, servo, 100, 0, 0);
                x.setNeutral(servo, 9);
                Checks.due("bestTrim(3, " + servo + ")", x.bestTrim(3, servo), 91);
                Checks.due("bestTrim(3, " + (5 - servo) + ")", x.bestTrim(3, 5 - servo), 100);
            });
        }
    }

    private static void rightSticks() {
        for (int number = 0; number < 4; number++) {
            int stick = number;
            Boundary.test(49, "`stick`: 0 to 3", () -> {
                PlaneServos x = new PlaneServos();
                for (int servo = 0; servo < 4; servo++) {
                    Checks.due("aimIfMoved(" + stick + ", 30, " + servo + ")", x.aimIfMoved(stick, 30, servo),
                        servo == stick ? 30 : 0);
                }
            });
            Boundary.test(50, "`stick`: 0 to 3",
                () -> Checks.due("drivenBy(" + stick + ")", new PlaneServos().drivenBy(stick), 1 << stick));
            Boundary.test(51, "`stick`: 0 to 3", () -> {
                PlaneServos x = new PlaneServos();
                for (int servo = 0; servo < 4; servo++) {
                    x.setNeutral(servo, 7);
                    Checks.due("bestTrim(" + stick + ", " + servo + ")", x.bestTrim(stick, servo),
                        servo == stick ? 93 : 100);
                }
            });
        }
    }

    private static void reasons() {
        Boundary.test(47, "Returns 0 if its position equals its aim", () -> {
            PlaneServos x = Radio.withBattery(0);
            Checks.due("reason(0), at its aim, empty", x.reason(0), 0);
            x.lose(9);
            Checks.due("reason(0), at its aim, failsafe", x.reason(0), 0);
            x.charge();
            x.send(1);
            x.lose(1);
            Checks.due("reason(0), at its aim, lost", x.reason(0), 0);
            x.move(0, 1);
            Checks.due("reason(0), one away", x.reason(0), 3);
        });
        Boundary.test(47, "otherwise the first reason that applies: 1 the battery is empty now", () -> {
            PlaneServos x = Radio.withBattery(1);
            x.lose(1);
            x.move(0, 1);
            Checks.due("reason(0), the last unit is gone", x.reason(0), 1);
            x.lose(50);
            Checks.due("reason(0), empty and failsafe", x.reason(0), 1);
            x.charge();
            Checks.due("reason(0), charged", x.reason(0), 2);
            PlaneServos y = Radio.withBattery(1);
            y.move(0, 1);
            Checks.due("reason(0), one unit", y.reason(0), 4);
        });
        Boundary.test(47, "2 the failsafe was on in the latest frame", () -> {
            PlaneServos x = new PlaneServos();
            x.move(0, 1);
            x.lose(4);
            Checks.due("reason(0), one short of the delay", x.reason(0), 3);
            x.lose(1);
            Checks.due("reason(0), at the delay", x.reason(0), 2);
            x.setDelay(50);
            Checks.due("reason(0), the delay is longer now", x.reason(0), 2);
            x.lose(1);
            Checks.due("reason(0), a frame later", x.reason(0), 3);
            x.setDelay(1);
            Checks.due("reason(0), the delay is shorter now", x.reason(0), 3);
        });
        Boundary.test(47, "3 the latest frame was lost; 4 none of these.", () -> {
            PlaneServos x = new PlaneServos();
            x.move(0, 2);
            x.setSpeed(0, 1);
            Checks.due("reason(0), no frame", x.reason(0), 4);
            x.lose(1);
            Checks.due("reason(0), lost", x.reason(0), 3);
            x.send(1);
            Checks.due("reason(0), received", x.reason(0), 4);
            x.send(1);
            Checks.due("reason(0), there", x.reason(0), 0);
        });
    }

    private static void framesToAim() {
        Boundary.test(48, "0 if the position equals the aim now.", () -> {
            PlaneServos x = new PlaneServos();
            Checks.due("framesToAim(0), new", x.framesToAim(0), 0);
            x.move(0, -1);
            Checks.due("framesToAim(0), one away", x.framesToAim(0), 1);
            x.send(1);
            Checks.due("framesToAim(0), there", x.framesToAim(0), 0);
        });
        Boundary.test(48, "Predicts how many received frames it takes until the position of a servo equals its present"
            + " aim.", () -> {
                int[] speeds = {1, 19, 20, 21, 39, 40, 41, 300};
                int[] due = {40, 3, 2, 2, 2, 1, 1, 1};
                for (int sign : new int[] {-1, 1}) {
                    for (int i = 0; i < speeds.length; i++) {
                        PlaneServos x = new PlaneServos();
                        x.move(0, 40 * sign);
                        x.setSpeed(0, speeds[i]);
                        Checks.due("framesToAim(0), speed " + speeds[i], x.framesToAim(0), due[i]);
                    }
                }
            });
        Boundary.test(48, "Returns the number of frames", () -> {
            PlaneServos x = new PlaneServos();
            x.setLimits(0, -150, 150);
            x.addMix(0, 0, 100, 0, 0);
            x.move(0, -100);
            x.send(1);
            x.move(0, 100);
            x.setSpeed(0, 1);
            Checks.due("framesToAim(0), the longest way", x.framesToAim(0), 300);
            for (int i = 0; i < 5; i++) {
                x.send(50);
            }
            x.send(49);
            Checks.due("servoPosition(0), one short of there", x.servoPosition(0), 149);
            Checks.due("framesToAim(0), one short of there", x.framesToAim(0), 1);
        });
        Boundary.test(48, "The battery is not considered.", () -> {
            PlaneServos x = Radio.withBattery(0);
            x.move(0, 40);
            x.setSpeed(0, 20);
            Checks.due("framesToAim(0), empty", x.framesToAim(0), 2);
            PlaneServos y = Radio.withBattery(10);
            y.move(0, 40);
            Checks.due("framesToAim(0), few units", y.framesToAim(0), 1);
        });
    }

    private static void aimsIfMoved() {
        Boundary.test(49, "`position`: -100 to 100", () -> {
            PlaneServos x = new PlaneServos();
            x.setLimits(0, -150, 150);
            Checks.due("aimIfMoved(0, -100, 0)", x.aimIfMoved(0, -100, 0), -100);
            Checks.due("aimIfMoved(0, -99, 0)", x.aimIfMoved(0, -99, 0), -99);
            Checks.due("aimIfMoved(0, 99, 0)", x.aimIfMoved(0, 99, 0), 99);
            Checks.due("aimIfMoved(0, 100, 0)", x.aimIfMoved(0, 100, 0), 100);
        });
        Boundary.test(49, "Returns the aim that the servo would have if the stick had this position.", () -> {
            PlaneServos x = new PlaneServos();
            x.setTrim(0, 25);
            Checks.due("aimIfMoved(0, 75, 0), at the limit", x.aimIfMoved(0, 75, 0), 100);
            Checks.due("aimIfMoved(0, 76, 0), beyond the limit", x.aimIfMoved(0, 76, 0), 100);
            Checks.due("aimIfMoved(0, 74, 0), below the limit", x.aimIfMoved(0, 74, 0), 99);
            Checks.due("aim(0)", x.aim(0), 25);
            x.cutThrottle(true);
            Checks.due("aimIfMoved(2, 100, 2), cut", x.aimIfMoved(2, 100, 2), -100);
        });
    }

    private static void drivenServos() {
        Boundary.test(50, "Returns a bit mask: bit k is set if the stick drives the servo k.", () -> {
            PlaneServos x = new PlaneServos();
            x.clearMixes(0);
            Checks.due("drivenBy(0), none", x.drivenBy(0), 0);
            for (int servo = 0; servo < 6; servo++) {
                x.addMix(0, servo, -1, 0, 0);
                Checks.due("drivenBy(0), up to " + servo, x.drivenBy(0), (2 << servo) - 1);
            }
        });
        Boundary.test(50, "A stick drives a servo if an active mix of the servo has the stick as its source, or has as"
            + " its source a servo that the stick drives.", () -> {
                PlaneServos x = new PlaneServos();
                // The longest chain; its mixes are added from the last one to the first one.
                for (int servo = 5; servo > 0; servo--) {
                    x.clearMixes(servo);
                    x.addMix(3 + servo, servo, 1, 0, servo == 3 ? 2 : 0);
                }
                Checks.due("drivenBy(0), all in a chain", x.drivenBy(0), 63);
                Checks.due("drivenBy(1), none", x.drivenBy(1), 0);
                x.switchRates();
                Checks.due("drivenBy(0), a mix of the chain is not active", x.drivenBy(0), 7);
            });
        Boundary.test(50, "(The throttle cut does not matter for this.)", () -> {
            PlaneServos x = new PlaneServos();
            x.cutThrottle(true);
            Checks.due("drivenBy(2), cut", x.drivenBy(2), 4);
        });
    }

    private static void edgesOfTrims() {
        Boundary.test(51, "Returns the trim, plus 100", () -> {
            int[] neutrals = {-50, -26, -25, -24, -2, -1, 0, 1, 2, 24, 25, 26, 50};
            int[] due = {125, 125, 125, 124, 102, 101, 100, 99, 98, 76, 75, 75, 75};
            for (int i = 0; i < neutrals.length; i++) {
                PlaneServos x = new PlaneServos();
                x.setNeutral(0, neutrals[i]);
                Checks.due("bestTrim(0, 0), neutral " + neutrals[i], x.bestTrim(0, 0), due[i]);
            }
        });
        Boundary.test(51, "Finds the trim of a stick, for the present position of the rate switch, for which the aim of"
            + " a servo would be nearest to 0.", () -> {
                PlaneServos x = new PlaneServos();
                x.setNeutral(0, 9);
                x.setRate(0, 50);
                x.move(0, 20);
                Checks.due("bestTrim(0, 0), high", x.bestTrim(0, 0), 81);
                x.switchRates();
                Checks.due("bestTrim(0, 0), low", x.bestTrim(0, 0), 75);
                Checks.due("trim(0), low", x.trim(0), 0);
                x.switchRates();
                Checks.due("trim(0), high", x.trim(0), 0);
            });
    }

    private static void bestTrims() {
        String sentence = "among several such trims the one nearest to 0; among two of those the positive one.";
        Boundary.test(51, sentence, () -> {
            PlaneServos x = new PlaneServos();
            x.setTrim(0, -25);
            Checks.due("bestTrim(0, 5), no trim matters", x.bestTrim(0, 5), 100);
            x.clearMixes(0);
            x.addMix(0, 0, 10, 1, 0);
            Checks.due("bestTrim(0, 0), -10 to -19 are best", x.bestTrim(0, 0), 90);
            x.clearMixes(0);
            x.addMix(0, 0, 10, -1, 0);
            Checks.due("bestTrim(0, 0), 10 to 19 are best", x.bestTrim(0, 0), 110);
            x.clearMixes(0);
            x.addMix(0, 0, 10, -50, 0);
            Checks.due("bestTrim(0, 0), 20 to 25 are best", x.bestTrim(0, 0), 120);
            for (int neutral : new int[] {-1, 1}) {
                PlaneServos steep = new PlaneServos();
                steep.addMix(0, 0, 150, 0, 0);
                steep.setNeutral(0, neutral);
                Checks.due("bestTrim(0, 0), 0 and a neighbour are best", steep.bestTrim(0, 0), 100);
                steep.addMix(0, 0, 100, 0, 0);
                Checks.due("bestTrim(0, 0), 0 is better than its neighbours", steep.bestTrim(0, 0), 100);
            }
        });
        Boundary.test(51, "among two of those the positive one.", () -> {
            Checks.due("bestTrim(0, 5), 9 and -9", ForecastsTest.evenInTheTrim(0).bestTrim(0, 5), 109);
            Checks.due("bestTrim(0, 5), -11 alone", ForecastsTest.evenInTheTrim(-12).bestTrim(0, 5), 89);
        });
    }

    private static void mostWorn() {
        Boundary.test(52, "NONE if no servo has moved.", () -> {
            PlaneServos x = new PlaneServos();
            Checks.due("mostWorn(), no frame", x.mostWorn(), -1);
            x.move(0, 100);
            x.lose(50);
            Checks.due("mostWorn(), none moved", x.mostWorn(), -1);
            x.move(0, 1);
            x.send(1);
            Checks.due("mostWorn(), one unit", x.mostWorn(), 0);
            x.undo();
            Checks.due("mostWorn(), undone", x.mostWorn(), -1);
        });
        Boundary.test(52, "among several such servos the one with the lowest number", () -> {
            PlaneServos x = new PlaneServos();
            for (int servo = 5; servo >= 0; servo--) {
                x.setNeutral(servo, servo % 2 == 0 ? 10 : -10);
                x.send(1);
                Checks.due("mostWorn(), all from " + servo, x.mostWorn(), servo);
            }
        });
        Boundary.test(52, "Finds the servo with the greatest wear.", () -> {
            PlaneServos x = new PlaneServos();
            for (int servo = 0; servo < 6; servo++) {
                x.setNeutral(servo, 10 + servo);
            }
            x.send(1);
            Checks.due("mostWorn(), the last one by 1", x.mostWorn(), 5);
            x.setNeutral(2, 8);
            x.send(1);
            Checks.due("mostWorn(), there and back", x.mostWorn(), 2);
        });
    }

    private static void linkQuality() {
        Boundary.test(53, "1.0 if no frame was sent.", () -> {
            PlaneServos x = new PlaneServos();
            Checks.due("linkQuality(), no frame", x.linkQuality(), 1.0);
            x.lose(1);
            Checks.due("linkQuality(), one lost", x.linkQuality(), 0.0);
            x.undo();
            Checks.due("linkQuality(), undone", x.linkQuality(), 1.0);
        });
        Boundary.test(53, "Returns the number of received frames as a double, divided by the number of all frames as a"
            + " double", () -> {
                PlaneServos x = new PlaneServos();
                x.send(50);
                Checks.due("linkQuality(), all received", x.linkQuality(), 1.0);
                x.lose(1);
                Checks.due("linkQuality(), one lost", x.linkQuality(), 50.0 / 51.0);
                PlaneServos y = new PlaneServos();
                y.lose(2);
                y.send(1);
                Checks.due("linkQuality(), one received", y.linkQuality(), 1.0 / 3.0);
                y.lose(50);
                Checks.due("linkQuality(), one of many", y.linkQuality(), 1.0 / 53.0);
            });
        Boundary.test(53, "All numbers are integers, except for linkQuality().", () -> {
            PlaneServos x = new PlaneServos();
            x.send(1);
            x.lose(1);
            Checks.due("linkQuality()", x.linkQuality(), 0.5);
        });
    }

    private static void changeNothing() {
        Boundary.changesNothing(47, "Tells why a servo is not at its aim.", x -> x.reason(4));
        Boundary.changesNothing(48, "Predicts how many received frames it takes", x -> x.framesToAim(4));
        Boundary.changesNothing(49, "Predicts the aim of a servo for another position of a stick.",
            x -> x.aimIfMoved(0, 77, 4));
        Boundary.changesNothing(50, "Finds the servos that a stick drives.", x -> x.drivenBy(0));
        Boundary.changesNothing(51, "Finds the trim of a stick", x -> x.bestTrim(0, 4));
        Boundary.changesNothing(52, "Finds the servo with the greatest wear.", x -> x.mostWorn());
        Boundary.changesNothing(53, "Returns the share of received frames.", x -> x.linkQuality());
    }
}
