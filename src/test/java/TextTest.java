/** Promises 8 to 11 and 32: the text buffer, its check, and running it. */
final class TextTest {
    public static void main(String[] args) {
        append();
        full();
        clear();
        validTexts();
        errorPositions();
        fullTextThatGoesOn();
        runEachCommand();
        runInOrder();
        runManyFrames();
        runIsOneUndo();
        runRefuses();
        Check.end();
    }

    private static void append() {
        TouchTracker x = new TouchTracker();
        Check.same("first", x.appendText(32), 1);
        Check.same("second", x.appendText(126), 2);
        Check.same("textLength", x.textLength(), 2);
        Check.same("no state is saved", x.savedStates(), 0);
        for (int character : new int[] {31, 127, -1, 0, Integer.MIN_VALUE, Integer.MAX_VALUE, 65536 + 's'}) {
            TouchTracker y = new TouchTracker();
            Check.failsOnArgument("append " + character, y, () -> y.appendText(character));
        }
    }

    private static void full() {
        TouchTracker x = new TouchTracker();
        for (int i = 1; i <= 80; i++) {
            Check.same("append", x.appendText('s'), i);
        }
        Check.failsOnState("append to a full text", x, () -> x.appendText('s'));
        TouchTracker y = new TouchTracker();
        for (int i = 1; i <= 80; i++) {
            y.appendText('s');
        }
        Check.failsOnArgument("append no character to a full text", y, () -> y.appendText(31));
        Check.same("clear", y.clearText(), 80);
        Check.same("append again", y.appendText('s'), 1);
        Check.same("valid", y.errorPosition(), TouchTracker.NONE);
    }

    private static void clear() {
        TouchTracker x = new TouchTracker();
        Check.same("clear nothing", x.clearText(), 0);
        Check.type(x, "xyz");
        Check.same("clear", x.clearText(), 3);
        Check.same("textLength", x.textLength(), 0);
        Check.same("an empty text is not valid", x.errorPosition(), 0);
        Check.same("no state is saved", x.savedStates(), 0);
    }

    private static void validTexts() {
        String[] valid = {"x", "b", "s", "p00,1", "p75,255", "p00,9", "p00,10", "p00,99", "p00,100", "p00,249",
            "p00,250", "x;b;s", "p12,30;p34,5;s", "s;s;s;s", "p00,199;x"};
        for (String text : valid) {
            TouchTracker x = new TouchTracker();
            Check.type(x, text);
            Check.same("errorPosition of " + text, x.errorPosition(), TouchTracker.NONE);
        }
    }

    private static void errorPositions() {
        error("", 0);
        error(" ", 0);
        error(";", 0);
        error("X", 0);
        error("ss", 1);
        error("s ;s", 1);
        error("s;", 2);
        error("s;;", 2);
        error("s;b;", 4);
        error("s; b", 2);
        error("p", 1);
        error("p80,1", 1);
        error("p/0,1", 1);
        error("p:0,1", 1);
        error("p0", 2);
        error("p06,1", 2);
        error("p0/,1", 2);
        error("p00", 3);
        error("p00;", 3);
        error("p001", 3);
        error("p00,", 4);
        error("p00,;", 4);
        error("p00,0", 4);
        error("p00,01", 4);
        error("p00,-1", 4);
        error("p00,256", 6);
        error("p00,260", 6);
        error("p00,300", 6);
        error("p00,999", 6);
        error("p00,2555", 7);
        error("p00,1000", 7);
        error("p00,100 ", 7);
        error("p00,1:", 5);
        error("p00,1/", 5);
        error("p00,12x", 6);
        error("p00,1;p", 7);
        error("p00,25;q", 7);
        error("x1", 1);
        error("b,", 1);
        error("x0;s", 1);
    }

    private static void error(String text, int position) {
        TouchTracker x = new TouchTracker();
        Check.type(x, text);
        Check.same("errorPosition of '" + text + "'", x.errorPosition(), position);
        Check.same("once more", x.errorPosition(), position);
        Check.same("textLength", x.textLength(), text.length());
        Check.failsOnState("runText of '" + text + "'", x, () -> x.runText());
    }

    /** A valid text that goes on would be longer than the buffer: it counts all the same. */
    private static void fullTextThatGoesOn() {
        error("s;".repeat(40), 80);
        error("s;".repeat(38) + "p00,", 80);
        TouchTracker x = new TouchTracker();
        Check.type(x, "p00,1;" + "s;".repeat(36) + "x;");
        Check.same("80 characters", x.textLength(), 80);
        Check.same("errorPosition", x.errorPosition(), 80);
        Check.type(x, "s;".repeat(37) + "p00,12");
        Check.same("80 characters", x.textLength(), 80);
        Check.same("errorPosition", x.errorPosition(), TouchTracker.NONE);
    }

    private static void runEachCommand() {
        TouchTracker x = new TouchTracker();
        Check.type(x, "p34,90");
        Check.same("press", x.runText(), 0);
        Check.same("the cell", x.raw(3, 4), 90);
        Check.same("its side", x.raw(3, 5), 45);
        Check.same("its corner", x.raw(4, 5), 22);
        Check.same("the text stays", x.textLength(), 6);
        Check.type(x, "s");
        Check.same("scan", x.runText(), 1);
        Check.same("frames", x.frames(), 1);
        Check.yes("the track is down", x.isDown(0));
        Check.type(x, "b");
        Check.same("calibrate", x.runText(), 0);
        Check.same("the signal", x.signal(3, 4), 0);
        Check.same("the raw value", x.raw(3, 4), 90);
        Check.type(x, "x");
        Check.same("release", x.runText(), 0);
        Check.same("the raw value", x.raw(3, 4), 0);
        Check.same("a state for each run", x.savedStates(), 4);
    }

    private static void runInOrder() {
        TouchTracker x = new TouchTracker();
        Check.type(x, "p11,7;p11,255;x;p11,40;b;p11,100");
        x.runText();
        Check.same("raw", x.raw(1, 1), 140);
        Check.same("signal", x.signal(1, 1), 100);
        Check.type(x, "p00,255;p00,1;p75,9");
        x.runText();
        Check.same("raw 0 0", x.raw(0, 0), 255);
        Check.same("raw 7 5", x.raw(7, 5), 9);
        Check.same("the last command runs too", x.raw(6, 5), 4);
    }

    private static void runManyFrames() {
        TouchTracker x = new TouchTracker();
        Check.type(x, "p00,99;s;p55,99;s;x;s;s;s;s;p33,99;s");
        Check.same("events of all frames", x.runText(), 5);
        Check.same("frames", x.frames(), 7);
        Check.same("downs", x.downs(), 3);
        Check.same("ups", x.ups(), 2);
        // The cell 3 3 is pressed still: with the cell 5 5 it becomes a palm, which starts no track.
        Check.same("the text runs again", x.runText(), 4);
        Check.same("frames", x.frames(), 14);
    }

    private static void runIsOneUndo() {
        TouchTracker x = new TouchTracker();
        x.set(TouchTracker.GRACE, 0);
        x.press(2, 2, 60);
        String before = Check.lookAtState(x);
        Check.type(x, "s;x;b;p00,50;s;b;p11,9;x;s");
        x.runText();
        Check.same("one more state", x.savedStates(), 3);
        Check.same("undo", x.undo(), 2);
        Check.same("all is as it was", Check.lookAtState(x), before);
        Check.same("the text is no part of the state", x.textLength(), 26);
        Check.same("it is valid still", x.errorPosition(), TouchTracker.NONE);
    }

    private static void runRefuses() {
        TouchTracker x = new TouchTracker();
        x.press(2, 2, 60);
        Check.type(x, "p00,99;s;x;");
        Check.failsOnState("runText of a text that ends too early", x, () -> x.runText());
    }
}
