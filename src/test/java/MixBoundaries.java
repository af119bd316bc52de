import java.util.function.Supplier;

/** Promises 15 to 23, sentence by sentence. */
final class MixBoundaries {
    private static final String NO_SERVO = "Throws `IndexOutOfBoundsException` if there is no such servo";
    private static final String WRONG_MIX = "Throws `IllegalArgumentException` if another argument is out of range, or"
        + " source is a servo whose number is not less than servo";
    private static final String NO_MIX = "Throws `IndexOutOfBoundsException` if there is no such mix";
    private static final String MIX = "`mix`: its number";
    private static final String AT_MOST = "There are at most 12 mixes.";

    private MixBoundaries() {
    }

    static void test() {
        servosOfMixes();
        sourcesOfMixes();
        numbersOfMixes();
        twelveMixes();
        twoExceptionsOfAddMix();
        removals();
        clearings();
        elevonArguments();
        elevonRoom();
        elevonMixes();
        wrongMixes();
        rightMixes();
        conditions();
        values();
        savedAndUnchanged();
    }

    /** A radio with this number of mixes, of which the last ones differ. */
    static PlaneServos withMixes(int count) {
        PlaneServos x = new PlaneServos();
        for (int mix = 4; mix < count; mix++) {
            x.addMix(mix % 4, 5, mix, 0, 0);
        }
        for (int mix = 3; mix >= count; mix--) {
            x.removeMix(mix);
        }
        return x;
    }

    private static void servosOfMixes() {
        Boundary.refuses(15, NO_SERVO, Checks.INDEX, 0, 5, (x, servo) -> x.addMix(0, servo, 1, 0, 0));
        Boundary.test(15, "`servo`: 0 to 5", () -> {
            for (int servo = 0; servo < 6; servo++) {
                PlaneServos x = new PlaneServos();
                x.move(0, 100);
                int before = x.demand(servo);
                Checks.due("addMix(0, " + servo + ", 9, 0, 0)", x.addMix(0, servo, 9, 0, 0), 4);
                Checks.due("mixServo(4)", x.mixServo(4), servo);
                Checks.due("demand(" + servo + ")", x.demand(servo), before + 9);
            }
        });
    }

    private static void sourcesOfMixes() {
        Boundary.refuses(15, WRONG_MIX, Checks.ARGUMENT, 0, 9, (x, source) -> x.addMix(source, 5, 1, 0, 0));
        Boundary.test(15, "`source`: 0 to 9", () -> {
            Checks.due("addMix(0, 5, 1, 0, 0)", new PlaneServos().addMix(0, 5, 1, 0, 0), 4);
            // No servo has a number above 5, so that the source 9 stands in no mix.
            Checks.due("addMix(8, 5, 1, 0, 0)", new PlaneServos().addMix(8, 5, 1, 0, 0), 4);
        });
        for (int number = 0; number < 6; number++) {
            int servo = number;
            Boundary.refuses(15, WRONG_MIX, Checks.ARGUMENT, 0, 3 + servo,
                (x, source) -> x.addMix(source, servo, 1, 0, 0));
        }
        Boundary.test(15, "If the source of a mix is a servo, its number is less than the number of the servo of the"
            + " mix.", () -> {
                for (int source = 4; source < 10; source++) {
                    for (int servo = 0; servo < 6; servo++) {
                        int from = source;
                        int to = servo;
                        Class<?> due = source - 4 < servo ? null : Checks.ARGUMENT;
                        Checks.due("addMix(" + from + ", " + to + ", 1, 0, 0) throws",
                            Boundary.thrownBy(new PlaneServos(), x -> x.addMix(from, to, 1, 0, 0)) == due, true);
                    }
                }
            });
    }

    private static void numbersOfMixes() {
        Boundary.test(15, "`share`: -150 to 150, not 0", () -> {
            for (int share : new int[] {-150, -149, -1, 1, 149, 150}) {
                PlaneServos x = new PlaneServos();
                x.move(1, 100);
                Checks.due("addMix, share " + share, x.addMix(1, 5, share, 0, 0), 4);
                Checks.due("mixValue(4), share " + share, x.mixValue(4), share);
            }
        });
        Boundary.refuses(15, WRONG_MIX, Checks.ARGUMENT, -150, 150, (x, share) -> x.addMix(1, 5, share, 0, 0));
        for (Radio from : Radio.values()) {
            Boundary.refuses(15, "A share is -150 to 150, but not 0.", Checks.ARGUMENT, from::make,
                x -> x.addMix(1, 5, 0, 0, 0));
        }
        Boundary.test(15, "`offset`: -50 to 50", () -> {
            for (int offset : new int[] {-50, -49, 0, 49, 50}) {
                PlaneServos x = new PlaneServos();
                Checks.due("addMix, offset " + offset, x.addMix(1, 5, 1, offset, 0), 4);
                Checks.due("mixValue(4), offset " + offset, x.mixValue(4), offset);
            }
        });
        Boundary.refuses(15, WRONG_MIX, Checks.ARGUMENT, -50, 50, (x, offset) -> x.addMix(1, 5, 1, offset, 0));
        Boundary.test(22, "An offset is -50 to 50.", () -> {
            PlaneServos x = new PlaneServos();
            x.addMix(1, 5, 1, 50, 0);
            x.addMix(1, 5, 1, -50, 0);
            Checks.due("mixValue(4)", x.mixValue(4), 50);
            Checks.due("mixValue(5)", x.mixValue(5), -50);
        });
        Boundary.test(15, "`condition`: 0 to 2", () -> {
            for (int condition = 0; condition < 3; condition++) {
                PlaneServos x = new PlaneServos();
                Checks.due("addMix, condition " + condition, x.addMix(1, 5, 1, 0, condition), 4);
                Checks.due("isActive(4), high, condition " + condition, x.isActive(4), condition != 1);
            }
        });
        Boundary.refuses(15, WRONG_MIX, Checks.ARGUMENT, 0, 2, (x, condition) -> x.addMix(1, 5, 1, 0, condition));
    }

    private static void twelveMixes() {
        Boundary.test(15, AT_MOST, () -> {
            PlaneServos x = new PlaneServos();
            for (int mix = 4; mix < 12; mix++) {
                Checks.due("addMix", x.addMix(0, 5, 1, 0, 0), mix);
            }
            Checks.due("mixes()", x.mixes(), 12);
        });
        Boundary.refuses(15, "Throws `IllegalStateException` if there are 12 mixes", Checks.STATE,
            () -> withMixes(12), x -> x.addMix(0, 5, 1, 0, 0));
        Boundary.refuses(15, "if there are 12 mixes", Checks.STATE, Radio.FULL::make, x -> x.addMix(8, 5, 1, 0, 0));
        Boundary.test(15, "if there are 12 mixes", () -> {
            PlaneServos x = withMixes(12);
            x.removeMix(11);
            Checks.due("addMix with eleven", x.addMix(0, 5, 1, 0, 0), 11);
            x.clearMixes(5);
            Checks.due("addMix after clearMixes(5)", x.addMix(0, 5, 1, 0, 0), 4);
        });
        Boundary.test(15, "They are numbered from 0 in the order in which they were added.", () -> {
            PlaneServos x = withMixes(0);
            Checks.due("the first addMix", x.addMix(3, 5, 1, 7, 0), 0);
            Checks.due("the second addMix", x.addMix(2, 4, 1, 8, 0), 1);
            Checks.due("mixSource(0)", x.mixSource(0), 3);
            Checks.due("mixSource(1)", x.mixSource(1), 2);
            Checks.due("mixValue(0)", x.mixValue(0), 7);
            Checks.due("mixValue(1)", x.mixValue(1), 8);
        });
        Boundary.test(19, AT_MOST, () -> {
            for (int count = 0; count <= 12; count++) {
                Checks.due("mixes(), " + count, withMixes(count).mixes(), count);
            }
        });
    }

    private static void twoExceptionsOfAddMix() {
        for (Radio from : Radio.values()) {
            for (int servo : new int[] {-1, 6}) {
                String call = "addMix with the servo " + servo + " and ";
                Boundary.throwsFirst(15, Checks.INDEX, call + "the source 10", from::make,
                    x -> x.addMix(10, servo, 1, 0, 0));
                Boundary.throwsFirst(15, Checks.INDEX, call + "the source -1", from::make,
                    x -> x.addMix(-1, servo, 1, 0, 0));
                Boundary.throwsFirst(15, Checks.INDEX, call + "the share 0", from::make,
                    x -> x.addMix(0, servo, 0, 0, 0));
                Boundary.throwsFirst(15, Checks.INDEX, call + "the offset 51", from::make,
                    x -> x.addMix(0, servo, 1, 51, 0));
                Boundary.throwsFirst(15, Checks.INDEX, call + "the condition 3", from::make,
                    x -> x.addMix(0, servo, 1, 0, 3));
            }
        }
        Supplier<PlaneServos> full = Radio.FULL::make;
        Boundary.throwsFirst(15, Checks.INDEX, "addMix to the servo 6, full", full, x -> x.addMix(0, 6, 1, 0, 0));
        Boundary.throwsFirst(15, Checks.INDEX, "addMix to the servo -1, full", full, x -> x.addMix(0, -1, 1, 0, 0));
        Boundary.throwsFirst(15, Checks.ARGUMENT, "addMix, source -1, full", full, x -> x.addMix(-1, 5, 1, 0, 0));
        Boundary.throwsFirst(15, Checks.ARGUMENT, "addMix, source 9, full", full, x -> x.addMix(9, 5, 1, 0, 0));
        Boundary.throwsFirst(15, Checks.ARGUMENT, "addMix, share 0, full", full, x -> x.addMix(0, 5, 0, 0, 0));
        Boundary.throwsFirst(15, Checks.ARGUMENT, "addMix, share 151, full", full, x -> x.addMix(0, 5, 151, 0, 0));
        Boundary.throwsFirst(15, Checks.ARGUMENT, "addMix, offset -51, full", full, x -> x.addMix(0, 5, 1, -51, 0));
        Boundary.throwsFirst(15, Checks.ARGUMENT, "addMix, condition 3, full", full, x -> x.addMix(0, 5, 1, 0, 3));
    }

    private static void removals() {
        for (int number : new int[] {0, 1, 4, 11, 12}) {
            int count = number;
            Boundary.refuses(16, NO_MIX, Checks.INDEX, () -> withMixes(count), x -> x.removeMix(count));
            Boundary.refuses(16, NO_MIX, Checks.INDEX, () -> withMixes(count), x -> x.removeMix(-1));
            Boundary.refuses(16, NO_MIX, Checks.INDEX, () -> withMixes(count), x -> x.removeMix(Integer.MAX_VALUE));
            Boundary.refuses(16, NO_MIX, Checks.INDEX, () -> withMixes(count), x -> x.removeMix(Integer.MIN_VALUE));
        }
        Boundary.test(16, MIX, () -> {
            Checks.due("removeMix(0) of one", withMixes(1).removeMix(0), 0);
            Checks.due("removeMix(0) of four", withMixes(4).removeMix(0), 3);
            Checks.due("removeMix(3) of four", withMixes(4).removeMix(3), 3);
            Checks.due("removeMix(0) of twelve", withMixes(12).removeMix(0), 11);
            Checks.due("removeMix(11) of twelve", withMixes(12).removeMix(11), 11);
        });
        Boundary.test(16, "When a mix is removed, the numbers of all mixes behind it decrease by 1.", () -> {
            for (int removed = 0; removed < 12; removed++) {
                renumbered(removed);
            }
        });
        Boundary.undoable(16, "Removes a mix. Undoable.", x -> x.removeMix(1));
    }

    private static void renumbered(int removed) {
        PlaneServos whole = withDifferentMixes();
        PlaneServos x = withDifferentMixes();
        x.removeMix(removed);
        for (int mix = 0; mix < 11; mix++) {
            int before = mix < removed ? mix : mix + 1;
            String what = "the mix " + removed + " removed, the mix " + mix + ": ";
            Checks.due(what + "source", x.mixSource(mix), whole.mixSource(before));
            Checks.due(what + "servo", x.mixServo(mix), whole.mixServo(before));
            Checks.due(what + "value", x.mixValue(mix), whole.mixValue(before));
            Checks.due(what + "condition", x.isActive(mix), whole.isActive(before));
        }
        Checks.due("addMix after it", x.addMix(0, 0, 1, 0, 0), 11);
    }

    /** Twelve mixes of which no two neighbours have the same source, servo, value or condition. */
    private static PlaneServos withDifferentMixes() {
        PlaneServos x = withMixes(0);
        for (int stick = 0; stick < 4; stick++) {
            x.move(stick, 100);
        }
        for (int mix = 0; mix < 12; mix++) {
            x.addMix(mix % 4, mix % 6, 10 + mix, mix, mix % 2);
        }
        return x;
    }

    private static void clearings() {
        Boundary.refuses(17, NO_SERVO, Checks.INDEX, 0, 5, (x, servo) -> x.clearMixes(servo));
        Boundary.test(17, "`servo`: 0 to 5", () -> {
            for (int servo = 0; servo < 6; servo++) {
                PlaneServos x = withDifferentMixes();
                Checks.due("clearMixes(" + servo + ")", x.clearMixes(servo), 2);
                for (int mix = 0; mix < 10; mix++) {
                    Checks.due("a mix of " + servo + " is left", x.mixServo(mix) == servo, false);
                }
            }
        });
        Boundary.test(17, "Returns the number of mixes that are removed.", () -> {
            PlaneServos x = withMixes(0);
            Checks.due("clearMixes(5), no mixes at all", x.clearMixes(5), 0);
            for (int mix = 0; mix < 12; mix++) {
                x.addMix(0, 5, 1, 0, 0);
            }
            Checks.due("clearMixes(4), all twelve of another servo", x.clearMixes(4), 0);
            Checks.due("clearMixes(5), all twelve", x.clearMixes(5), 12);
            Checks.due("mixes(), cleared", x.mixes(), 0);
            Checks.due("addMix after it", x.addMix(0, 5, 1, 0, 0), 0);
        });
        Boundary.test(17, "Removes all mixes of a servo (active or not).", () -> {
            PlaneServos x = new PlaneServos();
            x.addMix(1, 0, 50, 0, 1);
            x.addMix(2, 0, 50, 0, 2);
            Checks.due("clearMixes(0)", x.clearMixes(0), 3);
            Checks.due("mixSource(0), the numbers behind", x.mixSource(0), 1);
        });
        Boundary.undoable(17, "Undoable.", x -> x.clearMixes(1));
        Boundary.savesEvenSo(17, Radio.FRESH::make, x -> x.clearMixes(5));
        Boundary.savesEvenSo(17, () -> withMixes(0), x -> x.clearMixes(0));
    }

    private static void elevonArguments() {
        String wrong = "Throws `IllegalArgumentException` if left equals right, or share is out of range";
        Boundary.refuses(18, NO_SERVO, Checks.INDEX, 0, 5, (x, left) -> x.elevons(left, 1, 1));
        Boundary.refuses(18, NO_SERVO, Checks.INDEX, 0, 5, (x, right) -> x.elevons(1, right, 1));
        Boundary.test(18, "`left`: 0 to 5", () -> {
            elevonsDue(0, 3, 1);
            elevonsDue(5, 3, 1);
        });
        Boundary.test(18, "`right`: 0 to 5", () -> {
            elevonsDue(3, 0, 1);
            elevonsDue(3, 5, 1);
        });
        Boundary.test(18, "`share`: 1 to 150", () -> {
            elevonsDue(2, 3, 1);
            elevonsDue(2, 3, 2);
            elevonsDue(2, 3, 149);
            elevonsDue(2, 3, 150);
        });
        Boundary.refuses(18, wrong, Checks.ARGUMENT, 1, 150, (x, share) -> x.elevons(2, 3, share));
        for (int servo = 0; servo < 6; servo++) {
            int both = servo;
            Boundary.refuses(18, wrong, Checks.ARGUMENT, Radio.FRESH::make, x -> x.elevons(both, both, 1));
        }
        for (Radio from : Radio.values()) {
            Boundary.throwsFirst(18, Checks.INDEX, "elevons(-1, 0, 0)", from::make, x -> x.elevons(-1, 0, 0));
            Boundary.throwsFirst(18, Checks.INDEX, "elevons(0, -1, 151)", from::make, x -> x.elevons(0, -1, 151));
            Boundary.throwsFirst(18, Checks.INDEX, "elevons(6, 6, 1)", from::make, x -> x.elevons(6, 6, 1));
            Boundary.throwsFirst(18, Checks.INDEX, "elevons(-1, -1, 1)", from::make, x -> x.elevons(-1, -1, 1));
            Boundary.throwsFirst(18, Checks.INDEX, "elevons(0, 6, 0)", from::make, x -> x.elevons(0, 6, 0));
        }
    }

    private static void elevonsDue(int left, int right, int share) {
        PlaneServos x = new PlaneServos();
        x.move(0, 100);
        Checks.due("elevons(" + left + ", " + right + ", " + share + ")", x.elevons(left, right, share), 8);
        int[] servos = {left, left, right, right};
        int[] values = {share, 0, -share, 0};
        for (int i = 0; i < 4; i++) {
            Checks.due("mixSource(" + (4 + i) + ")", x.mixSource(4 + i), i % 2);
            Checks.due("mixServo(" + (4 + i) + ")", x.mixServo(4 + i), servos[i]);
            Checks.due("mixValue(" + (4 + i) + ")", x.mixValue(4 + i), values[i]);
        }
    }

    private static void elevonRoom() {
        for (int number = 9; number <= 12; number++) {
            int count = number;
            Boundary.refuses(18, "Throws `IllegalStateException` if there are more than 8 mixes", Checks.STATE,
                () -> withMixes(count), x -> x.elevons(0, 1, 1));
            Boundary.throwsFirst(18, Checks.INDEX, "elevons(6, 1, 1), " + count, () -> withMixes(count),
                x -> x.elevons(6, 1, 1));
            Boundary.throwsFirst(18, Checks.INDEX, "elevons(1, 6, 1), " + count, () -> withMixes(count),
                x -> x.elevons(1, 6, 1));
            Boundary.throwsFirst(18, Checks.ARGUMENT, "elevons(1, 1, 1), " + count, () -> withMixes(count),
                x -> x.elevons(1, 1, 1));
            Boundary.throwsFirst(18, Checks.ARGUMENT, "elevons(1, 2, 0), " + count, () -> withMixes(count),
                x -> x.elevons(1, 2, 0));
            Boundary.throwsFirst(18, Checks.ARGUMENT, "elevons(1, 2, 151), " + count, () -> withMixes(count),
                x -> x.elevons(1, 2, 151));
        }
        Boundary.test(18, "if there are more than 8 mixes", () -> {
            Checks.due("elevons with eight", withMixes(8).elevons(0, 1, 1), 12);
            Checks.due("elevons with seven", withMixes(7).elevons(0, 1, 1), 11);
            Checks.due("elevons with none", withMixes(0).elevons(0, 1, 1), 4);
        });
        Boundary.test(18, AT_MOST, () -> {
            PlaneServos x = new PlaneServos();
            x.elevons(0, 1, 1);
            Checks.due("the second elevons()", x.elevons(0, 1, 1), 12);
            Checks.due("the third elevons() throws", Boundary.thrownBy(x, y -> y.elevons(0, 1, 1)), Checks.STATE);
        });
    }

    private static void elevonMixes() {
        Boundary.test(18, "with the offset 0 and the condition 0, in this order: from the stick 0 to the servo left"
            + " with the share, from the stick 1 to the servo left with the share, from the stick 0 to the servo right"
            + " with minus the share, from the stick 1 to the servo right with the share.", () -> {
                PlaneServos x = new PlaneServos();
                x.elevons(5, 4, 150);
                for (int mix = 4; mix < 8; mix++) {
                    Checks.due("the offset of " + mix, x.mixValue(mix), 0);
                    Checks.due("isActive(" + mix + "), high", x.isActive(mix), true);
                }
                x.switchRates();
                for (int mix = 4; mix < 8; mix++) {
                    Checks.due("isActive(" + mix + "), low", x.isActive(mix), true);
                }
                x.move(0, 100);
                x.move(1, 10);
                Checks.due("mixValue(4)", x.mixValue(4), 150);
                Checks.due("mixValue(5)", x.mixValue(5), 15);
                Checks.due("mixValue(6)", x.mixValue(6), -150);
                Checks.due("mixValue(7)", x.mixValue(7), 15);
            });
        Boundary.undoable(18, "Undoable, as one call.", x -> x.elevons(4, 5, 10));
    }

    private static void wrongMixes() {
        for (int number : new int[] {0, 1, 4, 11, 12}) {
            int count = number;
            for (int wrong : new int[] {count, -1, Integer.MAX_VALUE, Integer.MIN_VALUE}) {
                Supplier<PlaneServos> from = () -> withMixes(count);
                Boundary.refuses(20, NO_MIX, Checks.INDEX, from, x -> x.mixSource(wrong));
                Boundary.refuses(21, NO_MIX, Checks.INDEX, from, x -> x.mixServo(wrong));
                Boundary.refuses(22, NO_MIX, Checks.INDEX, from, x -> x.mixValue(wrong));
                Boundary.refuses(23, NO_MIX, Checks.INDEX, from, x -> x.isActive(wrong));
            }
        }
        Supplier<PlaneServos> removed = () -> {
            PlaneServos x = withMixes(12);
            x.removeMix(3);
            return x;
        };
        Boundary.refuses(20, NO_MIX, Checks.INDEX, removed, x -> x.mixSource(11));
        Boundary.refuses(21, NO_MIX, Checks.INDEX, removed, x -> x.mixServo(11));
        Boundary.refuses(22, NO_MIX, Checks.INDEX, removed, x -> x.mixValue(11));
        Boundary.refuses(23, NO_MIX, Checks.INDEX, removed, x -> x.isActive(11));
    }

    private static void rightMixes() {
        Boundary.test(20, MIX, () -> {
            Checks.due("mixSource(0) of twelve", withMixes(12).mixSource(0), 0);
            Checks.due("mixSource(11) of twelve", withMixes(12).mixSource(11), 3);
            Checks.due("mixSource(0) of one", withMixes(1).mixSource(0), 0);
        });
        Boundary.test(21, MIX, () -> {
            Checks.due("mixServo(0) of twelve", withMixes(12).mixServo(0), 0);
            Checks.due("mixServo(11) of twelve", withMixes(12).mixServo(11), 5);
            Checks.due("mixServo(0) of one", withMixes(1).mixServo(0), 0);
        });
        Boundary.test(22, MIX, () -> {
            PlaneServos x = withMixes(12);
            x.move(0, 100);
            x.move(3, 100);
            Checks.due("mixValue(0) of twelve", x.mixValue(0), 100);
            Checks.due("mixValue(11) of twelve", x.mixValue(11), 11);
            Checks.due("mixValue(0) of one", withMixes(1).mixValue(0), 0);
        });
        Boundary.test(23, MIX, () -> {
            PlaneServos x = withMixes(11);
            x.addMix(0, 5, 1, 0, 1);
            Checks.due("isActive(0) of twelve", x.isActive(0), true);
            Checks.due("isActive(11) of twelve", x.isActive(11), false);
            Checks.due("isActive(0) of one", withMixes(1).isActive(0), true);
        });
        Boundary.test(20, "Returns the source, 0 to 9.", () -> {
            for (int source = 0; source < 9; source++) {
                PlaneServos x = new PlaneServos();
                x.addMix(source, 5, 1, 0, 0);
                Checks.due("mixSource(4)", x.mixSource(4), source);
            }
        });
        Boundary.test(21, "Returns the servo, 0 to 5.", () -> {
            for (int servo = 0; servo < 6; servo++) {
                PlaneServos x = new PlaneServos();
                x.addMix(0, servo, 1, 0, 0);
                Checks.due("mixServo(4)", x.mixServo(4), servo);
            }
        });
    }

    private static void conditions() {
        Boundary.test(23, "The conditions are 0 (always), 1 (only while the rate switch is low) and 2 (only while the"
            + " rate switch is high).", () -> {
                boolean[] dueHigh = {true, false, true};
                boolean[] dueLow = {true, true, false};
                for (int condition = 0; condition < 3; condition++) {
                    PlaneServos x = new PlaneServos();
                    x.addMix(1, 5, 1, 0, condition);
                    Checks.due("isActive(4), high, " + condition, x.isActive(4), dueHigh[condition]);
                    x.switchRates();
                    Checks.due("isActive(4), low, " + condition, x.isActive(4), dueLow[condition]);
                    x.switchRates();
                    Checks.due("isActive(4), high again, " + condition, x.isActive(4), dueHigh[condition]);
                }
            });
        Boundary.test(23, "A mix is active if its condition holds.", () -> {
            PlaneServos x = new PlaneServos();
            x.addMix(2, 5, 100, 50, 1);
            x.cutThrottle(true);
            x.setRate(2, 0);
            Checks.due("isActive(4), high", x.isActive(4), false);
            Checks.due("isActive(2), with the throttle cut and the rate 0", x.isActive(2), true);
            Checks.due("demand(5), high", x.demand(5), 0);
            x.switchRates();
            Checks.due("demand(5), low", x.demand(5), -50);
        });
    }

    private static void values() {
        Boundary.test(22, "0 if the mix is not active.", () -> {
            PlaneServos x = new PlaneServos();
            x.move(0, 100);
            x.addMix(0, 5, 150, 50, 1);
            x.addMix(0, 5, 150, 50, 2);
            Checks.due("mixValue(4), high", x.mixValue(4), 0);
            Checks.due("mixValue(5), high", x.mixValue(5), 200);
            x.switchRates();
            Checks.due("mixValue(4), low", x.mixValue(4), 200);
            Checks.due("mixValue(5), low", x.mixValue(5), 0);
        });
        Boundary.test(22, "The sources 0 to 3 are the sticks 0 to 3; the value of such a source is the command of the"
            + " stick.", () -> {
                for (int stick = 0; stick < 4; stick++) {
                    PlaneServos x = new PlaneServos();
                    x.addMix(stick, 5, 150, 50, 0);
                    x.setRate(stick, 125);
                    x.setTrim(stick, 25);
                    x.move(stick, 100);
                    Checks.due("mixValue(4), the command 150", x.mixValue(4), 275);
                    x.setTrim(stick, -25);
                    x.move(stick, -100);
                    Checks.due("mixValue(4), the command -150", x.mixValue(4), -175);
                }
            });
        Boundary.test(22, "The sources 4 to 9 are the servos 0 to 5; the value of such a source is the demand of the"
            + " servo.", () -> {
                for (int servo = 0; servo < 5; servo++) {
                    demandAsSource(servo);
                }
            });
        Boundary.test(22, "Returns (value of the source) * share / 100 + offset", () -> {
            valueDue(-50, 33, 7, -9);
            valueDue(50, -33, -7, -23);
            valueDue(-1, 99, 0, 0);
            valueDue(1, 99, 0, 0);
            valueDue(-1, 100, 0, -1);
            valueDue(-99, 101, 0, -99);
        });
    }

    /** A demand of 300 or -300 is multiplied as it is, though the servo itself is limited and reversed. */
    private static void demandAsSource(int servo) {
        PlaneServos x = withMixes(0);
        x.addMix(1, servo, 150, 50, 0);
        x.addMix(1, servo, 150, 50, 0);
        x.addMix(1, servo, 150, 50, 0);
        x.addMix(4 + servo, servo + 1, 150, 50, 0);
        x.reverse(servo);
        x.setNeutral(servo, 50);
        x.setLimits(servo, 0, 0);
        x.move(1, 100);
        Checks.due("mixValue(3), the demand 300 of " + servo, x.mixValue(3), 500);
        x.move(1, -100);
        Checks.due("mixValue(3), the demand -300 of " + servo, x.mixValue(3), -400);
    }

    private static void valueDue(int position, int share, int offset, int want) {
        PlaneServos x = new PlaneServos();
        x.move(1, position);
        x.addMix(1, 5, share, offset, 0);
        Checks.due("mixValue of " + position + ", " + share + ", " + offset, x.mixValue(4), want);
    }

    private static void savedAndUnchanged() {
        Boundary.undoable(15, "Adds a mix. Undoable.", x -> x.addMix(3, 5, -7, 1, 2));
        Boundary.changesNothing(19, "Returns the number of mixes.", x -> x.mixes());
        Boundary.changesNothing(20, "Returns the source of a mix.", x -> x.mixSource(1));
        Boundary.changesNothing(21, "Returns the servo of a mix.", x -> x.mixServo(1));
        Boundary.changesNothing(22, "Returns what an active mix adds to the sum for its servo now.",
            x -> x.mixValue(1));
        Boundary.changesNothing(23, "Tells whether a mix is active.", x -> x.isActive(1));
    }
}
