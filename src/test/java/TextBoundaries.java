import java.util.function.Consumer;
import java.util.function.Supplier;

/** Promises 54 to 57, sentence by sentence. */
final class TextBoundaries {
    private static final String STICK_COMMAND =
        "\"s\", a digit from 0 to 3, \"=\", and a position from -100 to 100: like move().";
    private static final String TRIM_COMMAND =
        "\"t\", a digit from 0 to 3, \"=\", and a trim from -25 to 25: like setTrim().";
    private static final String SEND_COMMAND = "\"f\" and a number from 1 to 50: like send().";
    private static final String LOSE_COMMAND = "\"l\" and a number from 1 to 50: like lose().";
    private static final String RATES_COMMAND = "\"r\": like switchRates().";
    private static final String CUT_COMMAND = "\"c\": turns the throttle cut on if it is off, and off if it is on.";
    private static final String PROGRAM = "A program is one or more commands, separated by \";\".";
    private static final String NEGATIVE = "A negative number begins with \"-\".";
    private static final String ZEROS = "Numbers have no leading zeros, and \"-0\" is not a number.";
    private static final String ERROR = "A character is an error if no program, however long, begins with the"
        + " characters before it and this character.";
    private static final String DIGITS = "0123456789";

    /** 59 signs that are a program; with another sign the buffer is full. */
    private static final String NEARLY_FULL = "r;".repeat(29) + "r";

    private TextBoundaries() {
    }

    static void test() {
        codes();
        lengths();
        clearings();
        firstSigns();
        signsOfSticks();
        signsOfFrames();
        firstErrors();
        incompletePrograms();
        commandsLikeCalls();
        wholePrograms();
        emptiesTheBuffer();
        savedAndUnchanged();
    }

    private static PlaneServos with(Radio from, String text) {
        PlaneServos x = from.make();
        x.clearText();
        Checks.type(x, text);
        return x;
    }

    private static void codes() {
        Boundary.test(54, "`code`: a character code, 33 to 126", () -> {
            for (int code = 33; code <= 126; code++) {
                Checks.due("append(" + code + ")", new PlaneServos().append(code), 1);
            }
        });
        Boundary.refuses(54, "Throws `IllegalArgumentException` if code is out of range", Checks.ARGUMENT, 33, 126,
            (x, code) -> x.append(code));
        for (int code : new int[] {0, 's' + 256, 's' - 256, 32, 127, -1}) {
            Boundary.throwsFirst(54, Checks.ARGUMENT, "append(" + code + "), full", Radio.FULL::make,
                x -> x.append(code));
            Boundary.throwsFirst(54, Checks.ARGUMENT, "append(" + code + ")", Radio.BUSY::make, x -> x.append(code));
        }
    }

    private static void lengths() {
        Boundary.test(54, "The buffer contains at most 60 characters", () -> {
            PlaneServos x = new PlaneServos();
            for (int length = 1; length <= 60; length++) {
                Checks.due("append('x')", x.append('x'), length);
            }
            Checks.due("clearText()", x.clearText(), 60);
            Checks.due("append('x'), cleared", x.append('x'), 1);
        });
        for (int code : new int[] {33, ';', 126}) {
            Boundary.refuses(54, "Throws `IllegalStateException` if the buffer contains 60 characters", Checks.STATE,
                Radio.FULL::make, x -> x.append(code));
        }
        Boundary.refuses(54, "if the buffer contains 60 characters", Checks.STATE,
            () -> with(Radio.FRESH, NEARLY_FULL + ";"), x -> x.append('r'));
        Boundary.test(54, "if the buffer contains 60 characters", () -> {
            PlaneServos x = with(Radio.FRESH, NEARLY_FULL);
            Checks.due("append(';'), one short of full", x.append(';'), 60);
            PlaneServos y = with(Radio.FRESH, NEARLY_FULL);
            y.run();
            Checks.due("append('s'), run", y.append('s'), 1);
        });
    }

    private static void clearings() {
        Boundary.test(55, "Returns the length that it had.", () -> {
            Checks.due("clearText(), empty", new PlaneServos().clearText(), 0);
            Checks.due("clearText(), one sign", with(Radio.FRESH, "x").clearText(), 1);
            Checks.due("clearText(), one short of full", with(Radio.FRESH, NEARLY_FULL).clearText(), 59);
            Checks.due("clearText(), full", with(Radio.FRESH, NEARLY_FULL + ";").clearText(), 60);
        });
        Boundary.test(55, "Empties the buffer.", () -> {
            PlaneServos x = with(Radio.FRESH, "s0=-1");
            x.clearText();
            Checks.due("clearText() again", x.clearText(), 0);
            Checks.due("firstError()", x.firstError(), 0);
            Checks.type(x, "5");
            Checks.due("firstError(), the signs before are gone", x.firstError(), 0);
            Checks.due("run() throws", Boundary.thrownBy(x, y -> y.run()), Checks.ARGUMENT);
        });
    }

    /** Just these signs may come next: each sign that a buffer can hold is tried. */
    private static void next(int promise, String sentence, String before, String allowed) {
        Boundary.test(promise, sentence, () -> {
            for (char sign = 33; sign <= 126; sign++) {
                int due = allowed.indexOf(sign) >= 0 ? before.length() + 1 : before.length();
                Checks.due("firstError() of " + before + sign, with(Radio.FRESH, before + sign).firstError(), due);
            }
        });
    }

    private static void firstSigns() {
        next(56, PROGRAM, "", "strcfl");
        next(56, PROGRAM, "r;", "strcfl");
        next(56, PROGRAM, "s0=-5;", "strcfl");
        next(56, PROGRAM, "t0=0;", "strcfl");
        next(56, PROGRAM, "f50;l1;c;", "strcfl");
        next(56, RATES_COMMAND, "r", ";");
        next(56, CUT_COMMAND, "c", ";");
        next(56, PROGRAM, "r;r", ";");
        next(56, PROGRAM, "c;s0=0;c", ";");
    }

    private static void signsOfSticks() {
        for (String before : new String[] {"", "s3=-100;"}) {
            next(56, STICK_COMMAND, before + "s", "0123");
            next(56, STICK_COMMAND, before + "s0", "=");
            next(56, STICK_COMMAND, before + "s3", "=");
            next(56, NEGATIVE, before + "s0=", "-" + DIGITS);
            next(56, STICK_COMMAND, before + "s0=1", DIGITS + ";");
            next(56, STICK_COMMAND, before + "s0=9", DIGITS + ";");
            next(56, STICK_COMMAND, before + "s0=10", "0;");
            next(56, STICK_COMMAND, before + "s0=11", ";");
            next(56, STICK_COMMAND, before + "s0=99", ";");
            next(56, STICK_COMMAND, before + "s0=100", ";");
            next(56, STICK_COMMAND, before + "s0=-1", DIGITS + ";");
            next(56, STICK_COMMAND, before + "s0=-10", "0;");
            next(56, STICK_COMMAND, before + "s0=-11", ";");
            next(56, STICK_COMMAND, before + "s0=-100", ";");
            next(56, ZEROS, before + "s0=0", ";");
            next(56, ZEROS, before + "s0=-", "123456789");
            next(56, TRIM_COMMAND, before + "t", "0123");
            next(56, TRIM_COMMAND, before + "t0", "=");
            next(56, TRIM_COMMAND, before + "t3", "=");
            next(56, NEGATIVE, before + "t0=", "-" + DIGITS);
            next(56, TRIM_COMMAND, before + "t0=1", DIGITS + ";");
            next(56, TRIM_COMMAND, before + "t0=2", "012345;");
            next(56, TRIM_COMMAND, before + "t0=3", ";");
            next(56, TRIM_COMMAND, before + "t0=10", ";");
            next(56, TRIM_COMMAND, before + "t0=25", ";");
            next(56, TRIM_COMMAND, before + "t0=-1", DIGITS + ";");
            next(56, TRIM_COMMAND, before + "t0=-2", "012345;");
            next(56, TRIM_COMMAND, before + "t0=-3", ";");
            next(56, TRIM_COMMAND, before + "t0=-25", ";");
            next(56, ZEROS, before + "t0=0", ";");
            next(56, ZEROS, before + "t0=-", "123456789");
        }
    }

    private static void signsOfFrames() {
        for (String letter : new String[] {"f", "l", "r;f", "s0=-7;l"}) {
            String sentence = letter.endsWith("f") ? SEND_COMMAND : LOSE_COMMAND;
            next(56, sentence, letter, "123456789");
            next(56, sentence, letter + "1", DIGITS + ";");
            next(56, sentence, letter + "4", DIGITS + ";");
            next(56, sentence, letter + "5", "0;");
            next(56, sentence, letter + "6", ";");
            next(56, sentence, letter + "9", ";");
            next(56, sentence, letter + "10", ";");
            next(56, sentence, letter + "49", ";");
            next(56, sentence, letter + "50", ";");
        }
    }

    private static void firstErrors() {
        Boundary.test(56, "Returns the index of the first character that is an error", () -> {
            errorDue("x", 0);
            errorDue("xx", 0);
            errorDue(";", 0);
            errorDue("r;;r;;", 2);
            errorDue("s0=101;x", 5);
            errorDue(NEARLY_FULL + "r", 59);
            errorDue(NEARLY_FULL.substring(1), 0);
        });
        Boundary.test(56, "the length of the buffer if there is none (also if the buffer is not a complete program).",
            () -> {
                errorDue("", 0);
                errorDue("r", 1);
                errorDue("r;", 2);
                errorDue("s0=-", 4);
                errorDue(NEARLY_FULL, 59);
                errorDue(NEARLY_FULL + ";", 60);
            });
        Boundary.test(56, ERROR, () -> {
            // No room is left for the rest of these programs, but longer ones begin so.
            for (String last : new String[] {"s", "s0", "s0=", "s0=-", "t1=-2", "f", "l", "r;"}) {
                String text = NEARLY_FULL.substring(0, 60 - last.length() - last.length() % 2) + last;
                String full = text.length() == 60 ? text : "f9;" + text.substring(2);
                errorDue(full, 60);
            }
        });
    }

    private static void errorDue(String text, int want) {
        Checks.due("firstError() of " + text, with(Radio.FRESH, text).firstError(), want);
        Checks.due("firstError() of " + text + ", where there was another one", with(Radio.FULL, text).firstError(),
            want);
    }

    private static void incompletePrograms() {
        String sentence =
            "Throws `IllegalArgumentException` if the buffer is not a complete program (the buffer stays)";
        String[] wrong = {"", "s", "s0", "s0=", "s0=-", "t", "t3", "t3=", "t3=-", "f", "l", ";", "r;", "r;;r", ";r",
            "rr", "rc", "s0=1;", "f1;", "s0=101", "s0=-101", "s4=1", "t0=26", "t0=-26", "t4=1", "f0", "f51", "l0",
            "l51", "f-1", "s0=-0", "s0=00", "s0=01", "s0=-01", "t0=-0", "t0=05", "f01", "s0=+1", "s0=1.", "R", "r;x"};
        for (String text : wrong) {
            for (Radio from : new Radio[] {Radio.FRESH, Radio.BUSY}) {
                Boundary.refuses(57, sentence, Checks.ARGUMENT, () -> with(from, text), x -> x.run());
            }
        }
        Boundary.refuses(57, sentence, Checks.ARGUMENT, () -> with(Radio.FULL, NEARLY_FULL + ";"), x -> x.run());
        Boundary.refuses(57, sentence, Checks.ARGUMENT, () -> with(Radio.FULL, NEARLY_FULL + "r"), x -> x.run());
        Boundary.refuses(57, "(the buffer stays)", Checks.ARGUMENT, Radio.BUSY::make, x -> x.run());
        Boundary.test(57, "(the buffer stays)", () -> {
            PlaneServos x = with(Radio.FRESH, "s0=-7;");
            Boundary.thrownBy(x, y -> y.run());
            Checks.due("append('c')", x.append('c'), 7);
            x.run();
            Checks.due("position(0)", x.position(0), -7);
            Checks.due("isCut()", x.isCut(), true);
        });
    }

    /** The program does just what the call does, whatever the radio. */
    private static void like(String sentence, String text, Consumer<PlaneServos> call) {
        Boundary.test(57, sentence, () -> {
            for (Radio from : Radio.values()) {
                Supplier<PlaneServos> run = () -> {
                    PlaneServos x = with(from, text);
                    x.run();
                    return x;
                };
                Supplier<PlaneServos> called = () -> {
                    PlaneServos x = with(from, "");
                    call.accept(x);
                    return x;
                };
                Boundary.alike("run() of " + text + " on " + from, run, called);
            }
        });
    }

    private static void commandsLikeCalls() {
        for (int stick = 0; stick < 4; stick++) {
            int at = stick;
            for (int position : new int[] {-100, -99, -10, -1, 0, 1, 9, 10, 99, 100}) {
                like(STICK_COMMAND, "s" + at + "=" + position, x -> x.move(at, position));
            }
            for (int trim : new int[] {-25, -24, -10, -9, -1, 0, 1, 9, 10, 19, 20, 24, 25}) {
                like(TRIM_COMMAND, "t" + at + "=" + trim, x -> x.setTrim(at, trim));
            }
        }
        like(RATES_COMMAND, "r", x -> x.switchRates());
        like(CUT_COMMAND, "c", x -> x.cutThrottle(!x.isCut()));
        for (int frames : new int[] {1, 2, 9, 10, 49, 50}) {
            like(SEND_COMMAND, "f" + frames, x -> x.send(frames));
            like(LOSE_COMMAND, "l" + frames, x -> x.lose(frames));
        }
    }

    private static void wholePrograms() {
        Boundary.test(57, PROGRAM, () -> {
            PlaneServos x = with(Radio.FRESH, "c;c;c");
            x.run();
            Checks.due("isCut() after c;c;c", x.isCut(), true);
            PlaneServos y = with(Radio.FRESH, "t0=-25;r;t0=25;r;s0=-3;s0=4");
            y.run();
            Checks.due("trim(0), high", y.trim(0), -25);
            Checks.due("position(0), the last one", y.position(0), 4);
            y.switchRates();
            Checks.due("trim(0), low", y.trim(0), 25);
            PlaneServos z = with(Radio.FRESH, "s1=-3;s1=4;s1=0");
            z.run();
            Checks.due("position(1), 0 after others", z.position(1), 0);
            PlaneServos full = with(Radio.FRESH, NEARLY_FULL.substring(0, 56) + "s0=7");
            full.run();
            Checks.due("isHigh(), 28 times r", full.isHigh(), true);
            Checks.due("position(0), the last signs of a full buffer", full.position(0), 7);
        });
        Boundary.test(57, "Returns the sum of the distances by which servos move.", () -> {
            for (String text : new String[] {"s0=100", "t0=25", "r", "c", "s0=1;t1=-2;r;c"}) {
                Checks.due("run() of " + text, with(Radio.FRESH, text).run(), 0);
            }
            PlaneServos x = with(Radio.FRESH, "s0=100;f1;s0=-100;l9;f1;s1=5;f50");
            Checks.due("run(), three frames with ways", x.run(), 100 + 200 + 5);
        });
    }

    private static void emptiesTheBuffer() {
        Boundary.test(57, "Executes the program in the buffer and empties the buffer.", () -> {
            PlaneServos x = with(Radio.FRESH, "r");
            x.run();
            Checks.due("clearText(), run", x.clearText(), 0);
            Checks.due("run() again throws", Boundary.thrownBy(x, y -> y.run()), Checks.ARGUMENT);
            Checks.due("append('f'), run", x.append('f'), 1);
            Checks.due("firstError(), run", x.firstError(), 1);
        });
    }

    private static void savedAndUnchanged() {
        for (String text : new String[] {"r", "s0=5;f50;t1=-3;l50;c;r", "r;r", "s0=0"}) {
            Boundary.test(57, "Undoable, as one call.", () -> {
                for (Radio from : Radio.values()) {
                    Boundary.savesOnce(() -> with(from, ""), x -> Checks.runText(x, text), x -> x.switchRates());
                }
            });
        }
        Boundary.test(57, "saves the state from before the call if it does not throw an exception, even if nothing"
            + " changes.", () -> {
                PlaneServos x = with(Radio.FRESH, "s0=0;c;c;t0=0");
                x.run();
                Checks.due("savedStates()", x.savedStates(), 1);
            });
        Boundary.test(57, "The state consists of everything except the buffer", () -> {
            PlaneServos x = with(Radio.FRESH, "s0=5");
            x.run();
            Checks.type(x, "r;f");
            x.undo();
            Checks.due("clearText() after undo()", x.clearText(), 3);
        });
        Boundary.changesNothing(56, "Finds the first error of the buffer.", x -> x.firstError());
        for (Radio from : new Radio[] {Radio.FRESH, Radio.BUSY, Radio.READY}) {
            Boundary.test(54, "Appends a character to the buffer.",
                () -> onlyTheBufferChanges(from, x -> x.append('x')));
        }
        for (Radio from : new Radio[] {Radio.FULL, Radio.BUSY, Radio.READY}) {
            Boundary.test(55, "Empties the buffer.", () -> onlyTheBufferChanges(from, x -> x.clearText()));
        }
    }

    /** Makes the call and undoes by hand what it does to the buffer. */
    private static void onlyTheBufferChanges(Radio from, Consumer<PlaneServos> call) {
        Supplier<PlaneServos> made = () -> {
            PlaneServos x = from.make();
            call.accept(x);
            x.clearText();
            return x;
        };
        Boundary.alike("with an empty buffer, on " + from, made, () -> with(from, ""));
    }
}
