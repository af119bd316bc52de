/** Promises 54 to 57: program text. */
public final class ProgramTextTest {
    public static void main(String[] args) {
        appends();
        clears();
        firstErrors();
        runs();
        runsAsOneCall();
        refusesToRun();
        longestText();
        Checks.finish("ProgramTextTest");
    }

    private static void appends() {
        PlaneServos x = new PlaneServos();
        Checks.due("append(33)", x.append(33), 1);
        Checks.due("append(126)", x.append(126), 2);
        for (int code : new int[] {32, 127, 0, -1, 's' + 256, Integer.MIN_VALUE, Integer.MAX_VALUE}) {
            Checks.refused("append(" + code + ")", x, Checks.ARGUMENT, y -> y.append(code));
        }
        Checks.quiet("append('s')", x, y -> y.append('s'));
        for (int length = 4; length <= 60; length++) {
            Checks.due("append, more", x.append('s'), length);
        }
        Checks.refused("append('s'), full", x, Checks.STATE, y -> y.append('s'));
        Checks.refused("append(32), full", x, Checks.ARGUMENT, y -> y.append(32));
        Checks.due("clearText(), full", x.clearText(), 60);
        Checks.due("append after clearText()", x.append('s'), 1);
    }

    private static void clears() {
        PlaneServos x = new PlaneServos();
        Checks.due("clearText(), empty", x.clearText(), 0);
        Checks.type(x, "f5x");
        Checks.quiet("clearText()", x, y -> Checks.due("clearText()", y.clearText(), 3));
        Checks.due("clearText() again", x.clearText(), 0);
        Checks.due("firstError() after it", x.firstError(), 0);
        Checks.refused("run() after it", x, Checks.ARGUMENT, y -> y.run());
    }

    private static void errorDue(String text, int want) {
        PlaneServos x = new PlaneServos();
        Checks.type(x, text);
        Checks.quiet("firstError()", x, y -> Checks.due("firstError() of " + text, y.firstError(), want));
        Checks.due("clearText() after firstError() of " + text, x.clearText(), text.length());
    }

    private static void firstErrors() {
        String[] open = {"", "s", "s0", "s3=", "s0=-", "t", "t2", "t1=", "t1=-", "f", "l", "r;", "s0=5;", "f9;l9;"};
        String[] whole = {"r", "c", "f1", "f50", "f5", "f49", "l1", "l50", "s0=0", "s3=100", "s1=-100", "s2=99",
            "s0=10", "s0=-1", "t0=25", "t0=-25", "t3=0", "t0=9", "t0=-9", "r;r", "s0=0;c;f50", "f1;l1;t0=1;s0=1"};
        for (String text : open) {
            errorDue(text, text.length());
        }
        for (String text : whole) {
            errorDue(text, text.length());
            errorDue(text + ";", text.length() + 1);
            errorDue(text + ";;", text.length() + 1);
            errorDue(text + "=", text.length());
            errorDue(text + ";" + text, 2 * text.length() + 1);
        }
        String[] lastIsWrong = {";", "x", "S", "0", "=", "-", "ss", "s4", "s-", "s;", "s00", "s0;", "s0==", "s0=;",
            "s0=+", "s0=00", "s0=01", "s0=-0", "s0=--", "s0=-;", "s0=101", "s0=11-", "s0=110", "s0=200", "s0=1000",
            "s0=-101", "t4", "t0-", "t0=26", "t0=30", "t0=100", "t0=-26", "t0=-0", "t0=00", "f0", "f-", "f;", "f=",
            "f51", "f60", "f100", "f500", "l0", "l-", "l51", "l60", "rr", "r0", "r=", "c1", "cc", "r;;", "rs",
            "f5r", "s0=5s", "s0=0.", "t0=1r", "f1,", "r;x", "s0=5:", "s0=5/", "s:", "s/"};
        for (String text : lastIsWrong) {
            errorDue(text, text.length() - 1);
            errorDue(text + "r;;", text.length() - 1);
        }
    }

    private static void runs() {
        PlaneServos x = new PlaneServos();
        Checks.due("run() of s0=-100", Checks.runText(x, "s0=-100"), 0);
        Checks.due("position(0)", x.position(0), -100);
        Checks.due("clearText() after run()", x.clearText(), 0);
        Checks.runText(x, "s3=7;s0=0;s3=100");
        Checks.due("position(0), set to 0", x.position(0), 0);
        Checks.due("position(3), the last one", x.position(3), 100);
        Checks.runText(x, "t1=-25;r;t1=25");
        Checks.due("isHigh()", x.isHigh(), false);
        Checks.due("trim(1), low", x.trim(1), 25);
        Checks.runText(x, "r");
        Checks.due("trim(1), high", x.trim(1), -25);
        Checks.runText(x, "c");
        Checks.due("isCut(), on", x.isCut(), true);
        Checks.runText(x, "c");
        Checks.due("isCut(), off", x.isCut(), false);
        Checks.due("run() of c;c;c", Checks.runText(x, "c;c;c"), 0);
        Checks.due("isCut(), on again", x.isCut(), true);
        Checks.due("run() of s1=30;f1", Checks.runText(x, "s1=30;f1"), 5 + 100 + 100);
        Checks.due("run() of t1=5;r", Checks.runText(x, "t1=5;r"), 0);
        Checks.due("run() of f2;s1=0;l1;f1", Checks.runText(x, "f2;s1=0;l1;f1"), 50 + 30);
        Checks.due("run() of c;t3=1", Checks.runText(x, "c;t3=1"), 0);
    }

    private static void runsAsOneCall() {
        PlaneServos x = new PlaneServos();
        x.setSpeed(0, 10);
        String program = "s0=50;f3;s0=-50;l2;f20;l5";
        Checks.undoable("run() of " + program, x,
            y -> Checks.due("run() of " + program, Checks.runText(y, program), 30 + 20 + 100));
        Checks.due("servoPosition(0)", x.servoPosition(0), -50);
        Checks.due("frames()", x.frames(), 30);
        Checks.due("lostFrames()", x.lostFrames(), 7);
        Checks.due("isFailsafe()", x.isFailsafe(), true);
        Checks.due("savedStates()", x.savedStates(), 2);
        Checks.type(x, "r;f");
        Checks.due("undo()", x.undo(), 1);
        Checks.due("position(0) after undo()", x.position(0), 0);
        Checks.due("clearText() after undo()", x.clearText(), 3);
        x.store(0);
        Checks.type(x, "r");
        x.recall(0);
        Checks.due("clearText() after recall()", x.clearText(), 1);
    }

    private static void refusesToRun() {
        String[] wrong = {"", "s", "s0", "s0=", "s0=-", "f", "r;", "f5;", "t1=3;s", "x", "r;;r", "f0", "f51", "s0=101",
            "s0=5;r;t0=-26", "rr", "f5;q", "s0=007"};
        for (String text : wrong) {
            PlaneServos x = new PlaneServos();
            Checks.type(x, text);
            Checks.refused("run() of " + text, x, Checks.ARGUMENT, y -> y.run());
            Checks.due("clearText() after the refused run() of " + text, x.clearText(), text.length());
        }
        PlaneServos x = new PlaneServos();
        Checks.type(x, "s0=1");
        Checks.type(x, ";");
        Checks.refused("run() of s0=1;", x, Checks.ARGUMENT, y -> y.run());
        Checks.type(x, "r");
        Checks.due("run() of s0=1;r", x.run(), 0);
        Checks.due("position(0)", x.position(0), 1);
    }

    private static void longestText() {
        PlaneServos x = new PlaneServos();
        StringBuilder text = new StringBuilder("s0=-100");
        while (text.length() < 57) {
            text.append(text.length() < 55 ? ";f50" : ";r");
        }
        text.append(";f2");
        text.setLength(60);
        Checks.due("the length of the longest text", text.length(), 60);
        Checks.type(x, text.toString());
        Checks.due("firstError() of the longest text", x.firstError(), 60);
        Checks.due("run() of the longest text", x.run(), 100);
        Checks.due("frames() after the longest text", x.frames(), 602);
    }
}
