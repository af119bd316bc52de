import java.math.BigInteger;
import java.util.ArrayDeque;
import java.util.Deque;
import java.util.function.Consumer;
import java.util.function.Supplier;

/** Promises 58 to 62, sentence by sentence. */
final class UndoBoundaries {
    private static final String AT_MOST =
        "At most 6 states are saved; when one more is saved, the oldest one is discarded.";

    private static final String STATE =
        "The state consists of everything except the buffer, the saved states and the memories.";

    /** Counted elsewhere, from the values that the document gives a new radio. */
    private static final long NEW_DIGEST = -8979798681830962871L;

    private UndoBoundaries() {
    }

    static void test() {
        nothingToUndo();
        sixStates();
        oldestIsDiscarded();
        savesAndUndoesInTurn();
        stateIsEverything();
        whatIsNoState();
        memoryNumbers();
        emptyMemories();
        stores();
        recalls();
        hashes();
        Boundary.changesNothing(59, "Returns the number of saved states", x -> x.savedStates());
        Boundary.changesNothing(62, "Computes a hash of the state.", x -> x.digest());
    }

    private static PlaneServos after(Supplier<PlaneServos> from, Consumer<PlaneServos> call) {
        PlaneServos x = from.get();
        call.accept(x);
        return x;
    }

    private static void undoAll(PlaneServos x) {
        for (int left = x.savedStates(); left > 0; left--) {
            x.undo();
        }
    }

    private static void nothingToUndo() {
        String sentence = "Throws `IllegalStateException` if no state is saved";
        Boundary.refuses(58, sentence, Checks.STATE, Radio.FRESH::make, x -> x.undo());
        for (Radio from : Radio.values()) {
            Boundary.refuses(58, sentence, Checks.STATE, () -> after(from::make, UndoBoundaries::undoAll),
                x -> x.undo());
        }
        Boundary.refuses(58, sentence, Checks.STATE, () -> after(Radio.FRESH::make, x -> x.store(0)), x -> x.undo());
    }

    private static void sixStates() {
        Boundary.test(59, "Returns the number of saved states, 0 to 6.", () -> {
            PlaneServos x = new PlaneServos();
            Checks.due("savedStates(), none", x.savedStates(), 0);
            for (int saved = 1; saved <= 20; saved++) {
                x.switchRates();
                Checks.due("savedStates(), " + saved + " calls", x.savedStates(), Math.min(saved, 6));
            }
            for (int left = 5; left >= 0; left--) {
                x.undo();
                Checks.due("savedStates(), undone", x.savedStates(), left);
            }
        });
        Boundary.test(58, "Returns the number of saved states that are left.", () -> {
            PlaneServos x = new PlaneServos();
            x.switchRates();
            Checks.due("undo(), one saved", x.undo(), 0);
            for (int saved = 1; saved <= 9; saved++) {
                x.switchRates();
            }
            for (int left = 5; left >= 0; left--) {
                Checks.due("undo()", x.undo(), left);
            }
        });
    }

    private static void oldestIsDiscarded() {
        Boundary.test(58, AT_MOST, () -> {
            // From 12 on each place has been used again, from 13 on a second time.
            for (int calls = 1; calls <= 20; calls++) {
                PlaneServos x = new PlaneServos();
                for (int position = 1; position <= calls; position++) {
                    x.move(0, position);
                }
                for (int undone = 1; undone <= Math.min(calls, 6); undone++) {
                    x.undo();
                    Checks.due("position(0) after " + calls + " moves, " + undone + " undone", x.position(0),
                        calls - undone);
                }
                Checks.due("the next undo() throws", Boundary.thrownBy(x, y -> y.undo()), Checks.STATE);
            }
        });
        Boundary.test(58, "when one more is saved, the oldest one is discarded.", () -> {
            PlaneServos x = new PlaneServos();
            for (int position = 1; position <= 6; position++) {
                x.move(0, position);
            }
            Boundary.thrownBy(x, y -> y.move(0, 101));
            undoAll(x);
            Checks.due("position(0), a refused call discards none", x.position(0), 0);
        });
    }

    private static void savesAndUndoesInTurn() {
        Boundary.test(58, "Restores the state that was saved last, and removes it from the saved states.", () -> {
            PlaneServos x = new PlaneServos();
            Deque<Integer> saved = new ArrayDeque<>();
            int position = 0;
            // A pattern that climbs over six, falls to nothing and begins anew, many times round.
            for (int step = 0; step < 200; step++) {
                boolean isUndo = step % 13 > 7 || step % 5 == 4;
                if (isUndo && !saved.isEmpty()) {
                    position = saved.removeLast();
                    Checks.due("undo(), step " + step, x.undo(), saved.size());
                } else {
                    if (saved.size() == 6) {
                        saved.removeFirst();
                    }
                    saved.addLast(position);
                    position = step % 101;
                    x.move(0, position);
                }
                Checks.due("position(0), step " + step, x.position(0), position);
            }
        });
    }

    /** Changes all that can be changed. */
    private static void changeAll(PlaneServos x) {
        for (int stick = 0; stick < 4; stick++) {
            x.setTrim(stick, 1 + stick);
            x.setRate(stick, 11 + stick);
            x.setExpo(stick, 21 + stick);
            x.move(stick, 31 + stick);
        }
        for (int servo = 0; servo < 6; servo++) {
            x.reverse(servo);
            x.setNeutral(servo, 3);
            x.setLimits(servo, -60, 61);
            x.setSpeed(servo, 44);
            x.setFailsafe(servo, 1, 33);
        }
        x.switchRates();
        x.cutThrottle(!x.isCut());
        x.removeMix(0);
        x.clearMixes(5);
        x.setDelay(2);
        x.send(2);
        x.lose(3);
        x.charge();
        x.lose(1);
    }

    private static void stateIsEverything() {
        Boundary.test(61, STATE, () -> {
            for (Radio from : Radio.values()) {
                String got = Afterlife.ofState(() -> after(() -> storedAndChanged(from), x -> x.recall(1)));
                String due = Afterlife.ofState(from::make);
                Checks.due("what differs, recalled on " + from, Afterlife.difference(got, due), "");
            }
        });
        Boundary.test(58, STATE, () -> {
            for (Radio from : Radio.values()) {
                String got = Afterlife.ofState(() -> {
                    PlaneServos x = storedAndChanged(from);
                    x.recall(1);
                    x.undo();
                    return x;
                });
                String due = Afterlife.ofState(() -> storedAndChanged(from));
                Checks.due("what differs, undone on " + from, Afterlife.difference(got, due), "");
            }
        });
    }

    private static PlaneServos storedAndChanged(Radio from) {
        PlaneServos x = from.make();
        x.store(1);
        changeAll(x);
        return x;
    }

    private static void whatIsNoState() {
        Boundary.test(58, "except the buffer, the saved states and the memories.", () -> {
            PlaneServos x = new PlaneServos();
            Checks.type(x, "abc");
            x.move(0, 10);
            x.store(0);
            x.clearText();
            Checks.type(x, "xy");
            x.undo();
            Checks.due("clearText(), the buffer is no state", x.clearText(), 2);
            Checks.due("savedStates(), undone", x.savedStates(), 0);
            Checks.due("recall(0), the memories are no state", x.recall(0), 4);
            Checks.due("position(0), recalled", x.position(0), 10);
        });
        Boundary.test(61, "except the buffer, the saved states and the memories.", () -> {
            PlaneServos x = new PlaneServos();
            x.move(0, 10);
            x.store(0);
            x.move(0, 20);
            x.store(1);
            Checks.type(x, "xy");
            x.recall(0);
            Checks.due("savedStates(), recalled", x.savedStates(), 3);
            Checks.due("clearText(), recalled", x.clearText(), 2);
            x.recall(1);
            Checks.due("position(0) of the other memory", x.position(0), 20);
        });
    }

    private static void memoryNumbers() {
        Boundary.refuses(60, "Throws `IllegalArgumentException` if there is no such memory", Checks.ARGUMENT, 0, 1,
            (x, memory) -> x.store(memory));
        Boundary.refuses(61, "Throws `IllegalArgumentException` if there is no such memory", Checks.ARGUMENT, 0, 1,
            (x, memory) -> x.recall(memory));
        Boundary.throwsFirst(61, Checks.ARGUMENT, "recall(2), all empty", Radio.FRESH::make, x -> x.recall(2));
        Boundary.throwsFirst(61, Checks.ARGUMENT, "recall(-1), all empty", Radio.FRESH::make, x -> x.recall(-1));
        for (int memory = 0; memory < 2; memory++) {
            int number = memory;
            Boundary.test(60, "`memory`: 0 or 1", () -> {
                PlaneServos x = new PlaneServos();
                x.store(number);
                Checks.due("recall of the memory", x.recall(number), 4);
                Checks.due("recall of the other memory throws", Boundary.thrownBy(x, y -> y.recall(1 - number)),
                    Checks.STATE);
            });
            Boundary.test(61, "`memory`: 0 or 1", () -> {
                PlaneServos x = new PlaneServos();
                x.store(1 - number);
                x.move(0, 7);
                x.store(number);
                x.move(0, 8);
                x.recall(number);
                Checks.due("position(0)", x.position(0), 7);
                x.recall(1 - number);
                Checks.due("position(0) of the other memory", x.position(0), 0);
            });
        }
    }

    private static void emptyMemories() {
        String sentence = "Throws `IllegalStateException` if the memory is empty";
        Boundary.refuses(61, sentence, Checks.STATE, Radio.FRESH::make, x -> x.recall(0));
        Boundary.refuses(61, sentence, Checks.STATE, Radio.FRESH::make, x -> x.recall(1));
        Boundary.refuses(61, sentence, Checks.STATE, Radio.BUSY::make, x -> x.recall(1));
        Boundary.refuses(61, sentence, Checks.STATE, Radio.READY::make, x -> x.recall(0));
        Boundary.test(61, "There are two memories, numbered 0 and 1, which are empty at first.", () -> {
            PlaneServos x = new PlaneServos();
            x.store(1);
            Checks.due("recall(0), the other one stored, throws", Boundary.thrownBy(x, y -> y.recall(0)),
                Checks.STATE);
            x.store(0);
            Checks.due("recall(0), stored", x.recall(0), 4);
        });
    }

    private static void stores() {
        Boundary.test(60, "Stores the state in a memory, in place of what the memory contained.", () -> {
            PlaneServos x = new PlaneServos();
            x.move(0, 10);
            x.store(0);
            x.move(0, 20);
            x.store(0);
            x.move(0, 30);
            x.recall(0);
            Checks.due("position(0)", x.position(0), 20);
        });
        Boundary.test(60, "Returns the number of mixes.", () -> {
            PlaneServos x = new PlaneServos();
            Checks.due("store(0), the first mixes", x.store(0), 4);
            for (int servo = 0; servo < 4; servo++) {
                x.clearMixes(servo);
            }
            Checks.due("store(0), no mixes", x.store(0), 0);
            Checks.due("store(1), twelve mixes", Radio.FULL.make().store(1), 12);
        });
        for (int memory = 0; memory < 2; memory++) {
            int number = memory;
            Boundary.test(60, "Stores the state in a memory", () -> {
                String got = Afterlife.of(() -> after(Radio.FRESH::make, x -> x.store(number)));
                String first = Afterlife.difference(got, Radio.FRESH.afterlife());
                Checks.due("only the memory changes", first.startsWith("recalled " + number + ":"), true);
                String again = Afterlife.of(() -> after(Radio.FULL::make, x -> x.store(number)));
                String firstOfFull = Afterlife.difference(again, Radio.FULL.afterlife());
                Checks.due("only the memory changes, full",
                    firstOfFull.isEmpty() || firstOfFull.startsWith("recalled " + number + ":"), true);
            });
        }
    }

    private static void recalls() {
        Boundary.test(61, "Restores the state from a memory, which keeps it.", () -> {
            PlaneServos x = new PlaneServos();
            x.move(0, 10);
            x.store(0);
            for (int turn = 0; turn < 3; turn++) {
                x.recall(0);
                Checks.due("position(0), recalled", x.position(0), 10);
                x.move(0, 20 + turn);
                x.removeMix(0);
                x.send(1);
            }
            x.undo();
            x.recall(0);
            Checks.due("position(0), recalled after undo()", x.position(0), 10);
            Checks.due("mixes(), recalled after undo()", x.mixes(), 4);
            Checks.due("frames(), recalled after undo()", x.frames(), 0);
        });
        Boundary.test(61, "Returns the number of mixes after the call.", () -> {
            PlaneServos x = new PlaneServos();
            x.store(0);
            x.elevons(0, 1, 1);
            x.elevons(0, 1, 1);
            x.store(1);
            Checks.due("recall(0)", x.recall(0), 4);
            Checks.due("recall(1), twelve", x.recall(1), 12);
        });
        Boundary.undoable(61, "Undoable.", x -> x.recall(0));
        Boundary.undoable(61, "Undoable.", x -> x.recall(1));
        Boundary.savesEvenSo(61, () -> after(Radio.BUSY::make, x -> x.store(1)), x -> x.recall(1));
        Boundary.savesEvenSo(61, () -> after(Radio.FRESH::make, x -> x.store(0)), x -> x.recall(0));
    }

    private static void hashes() {
        Boundary.test(62, "The hash starts at 4366.",
            () -> Checks.due("digest(), new", new PlaneServos().digest(), NEW_DIGEST));
        Boundary.test(62, "For each value v of the following list, in order, the hash becomes 31 * hash + v, in long"
            + " arithmetic with overflow.", () -> {
                for (Radio from : Radio.values()) {
                    Checks.due("digest() of " + from, from.make().digest(), digestOf(from.make()));
                }
                PlaneServos dead = Radio.withBattery(0);
                dead.send(7);
                dead.charge();
                dead.lose(2);
                Checks.due("digest(), after dead frames", dead.digest(), digestOf(dead));
            });
        Boundary.test(62, "1 if the rate switch is high, otherwise 0; 1 if the throttle cut is on, otherwise 0", () -> {
            PlaneServos x = new PlaneServos();
            for (int turn = 0; turn < 4; turn++) {
                x.switchRates();
                x.cutThrottle(turn > 1);
                Checks.due("digest(), high " + x.isHigh() + ", cut " + x.isCut(), x.digest(), digestOf(x));
            }
        });
        String mixes = "the number of mixes; for each mix its source, its servo, and what mixValue() returns";
        for (int number = 0; number <= 12; number++) {
            int count = number;
            Boundary.test(62, mixes, () -> {
                PlaneServos x = MixBoundaries.withMixes(count);
                x.move(0, 100);
                x.move(3, -100);
                Checks.due("digest(), mixes " + count, x.digest(), digestOf(x));
            });
        }
    }

    /** Counts without overflow and keeps the last 64 bits. */
    private static long digestOf(PlaneServos x) {
        Hash hash = new Hash();
        for (int stick = 0; stick < 4; stick++) {
            hash.add(x.position(stick), x.expo(stick), x.rate(stick), x.trim(stick), x.command(stick));
        }
        hash.add(x.isHigh() ? 1 : 0, x.isCut() ? 1 : 0, x.mixes());
        for (int mix = 0; mix < x.mixes(); mix++) {
            hash.add(x.mixSource(mix), x.mixServo(mix), x.mixValue(mix));
        }
        for (int servo = 0; servo < 6; servo++) {
            hash.add(x.demand(servo), x.aim(servo), x.target(servo), x.servoPosition(servo), x.wear(servo));
        }
        hash.add(x.battery(), x.charged(), x.frames(), x.lostFrames(), x.deadFrames(), x.lostInRow(), x.failsafes());
        return hash.number.longValue();
    }

    private static final class Hash {
        private BigInteger number = BigInteger.valueOf(4366);

        void add(int... values) {
            for (int value : values) {
                number = number.multiply(BigInteger.valueOf(31)).add(BigInteger.valueOf(value));
            }
        }
    }
}
