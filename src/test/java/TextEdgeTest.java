/** Section 6, TEXTS, with promises 8 to 11 and 32: a test for each sentence with an edge. */
final class TextEdgeTest {
    private static final String COMMANDS = "pxbs";
    private static final String DIGITS = "0123456789";
    private static final String[] BEFORE = {"", "s;", "p75,255;", "x;b;p00,1;"};

    public static void main(String[] args) {
        charactersOfEachCode();
        upTo80Characters();
        clearOfEachLength();
        emptyText();
        eachPlaceOfACommand();
        eachForce();
        leadingZeros();
        oneCommandToForty();
        semicolons();
        endsTooEarly();
        firstErrorCounts();
        errorAtEachIndex();
        errorInTheLastCharacter();
        noLimitOfLength();
        commandsDoAsTheCallsDo();
        pressOfEachCell();
        eventsOfAllFrames();
        theTextStays();
        Check.end();
    }

    private static TouchTracker with(String text) {
        TouchTracker x = new TouchTracker();
        Check.type(x, text);
        return x;
    }

    /** The error position that is due, and that the text runs or is refused. */
    private static void due(String text, int position) {
        TouchTracker x = with(text);
        Check.same("errorPosition of '" + text + "'", x.errorPosition(), position);
        Class<?> thrown = null;
        try {
            x.runText();
        } catch (RuntimeException e) {
            thrown = e.getClass();
        }
        Check.yes("runText of '" + text + "' throws as is due, " + thrown,
                thrown == (position == TouchTracker.NONE ? null : IllegalStateException.class));
        Check.same("savedStates after '" + text + "'", x.savedStates(), position == TouchTracker.NONE ? 1 : 0);
    }

    private static void valid(String text) {
        due(text, TouchTracker.NONE);
    }

    /** "a character code, 32 to 126" */
    private static void charactersOfEachCode() {
        for (int character = 30; character <= 128; character++) {
            int code = character;
            TouchTracker x = new TouchTracker();
            if (code < 32 || code > 126) {
                Check.failsOnArgument("appendText " + code, x, () -> x.appendText(code));
            } else {
                Check.same("appendText " + code, x.appendText(code), 1);
                Check.same("textLength", x.textLength(), 1);
                boolean command = code == 'x' || code == 'b' || code == 's';
                Check.same("errorPosition", x.errorPosition(), command ? TouchTracker.NONE : code == 'p' ? 1 : 0);
            }
        }
    }

    /** "The text buffer holds at most 80 characters"; "Throws IllegalStateException if the text has 80 characters" */
    private static void upTo80Characters() {
        TouchTracker x = new TouchTracker();
        for (int length = 1; length <= 80; length++) {
            Check.same("appendText", x.appendText(length % 2 == 1 ? 'x' : ';'), length);
            Check.same("textLength", x.textLength(), length);
        }
        Check.failsOnState("the character 81", x, () -> x.appendText('x'));
        TouchTracker full = Scene.FULL.make();
        Check.failsOnArgument("no character, to a full text", full, () -> full.appendText(127));
        TouchTracker nearly = Scene.NEARLY_FULL.make();
        Check.failsOnArgument("no character, to 79", nearly, () -> nearly.appendText(31));
        Check.same("the character 80", nearly.appendText('!'), 80);
        Check.same("it is there", nearly.errorPosition(), 79);
    }

    /** "Returns the length of the text before the call.": from none to 80. */
    private static void clearOfEachLength() {
        TouchTracker x = new TouchTracker();
        for (int length = 0; length <= 80; length++) {
            TouchTracker y = with("q".repeat(length));
            Check.same("clearText", y.clearText(), length);
            Check.same("textLength", y.textLength(), 0);
            Check.same("clearText again", y.clearText(), 0);
            Check.same("appendText", y.appendText('s'), 1);
            Check.same("nothing is left of it", y.errorPosition(), TouchTracker.NONE);
        }
        Check.same("a new text is empty", x.textLength(), 0);
    }

    /** "or it is empty": the error position is 0 then. */
    private static void emptyText() {
        due("", 0);
        TouchTracker x = with("s");
        x.clearText();
        Check.same("emptied", x.errorPosition(), 0);
        Check.failsOnState("runText of an emptied text", x, () -> x.runText());
    }

    /** Each character at each place: "prc,<n>", "x", "b", "s", and what may stand behind. */
    private static void eachPlaceOfACommand() {
        for (String before : BEFORE) {
            place(before, COMMANDS, false);
            place(before + "x", ";", true);
            place(before + "b", ";", true);
            place(before + "s", ";", true);
            place(before + "p", "01234567", false);
            for (int row = 0; row <= 7; row++) {
                place(before + "p" + row, "012345", false);
            }
            for (int column = 0; column <= 5; column++) {
                place(before + "p3" + column, ",", false);
            }
            place(before + "p35,", "123456789", false);
            for (int force = 1; force <= 255; force++) {
                String behind = force < 25 ? DIGITS + ";" : force == 25 ? "012345;" : ";";
                place(before + "p35," + force, behind, true);
            }
        }
    }

    /** What may follow a beginning; the beginning is a valid text itself if it has an end. */
    private static void place(String beginning, String allowed, boolean hasEnd) {
        int length = beginning.length();
        due(beginning, hasEnd ? TouchTracker.NONE : length);
        for (char character = 32; character <= 126; character++) {
            String text = beginning + character;
            if (allowed.indexOf(character) < 0) {
                due(text, length);
            } else {
                boolean ends = DIGITS.indexOf(character) >= 0 && beginning.indexOf(',') >= 0
                        && beginning.lastIndexOf(',') > beginning.lastIndexOf(';');
                due(text, ends || "xbs".indexOf(character) >= 0 ? TouchTracker.NONE : length + 1);
            }
        }
    }

    /** "<n> for a number from 1 to 255" */
    private static void eachForce() {
        due("p00,0", 4);
        for (int force = 1; force <= 255; force++) {
            TouchTracker x = with("p62," + force);
            Check.same("errorPosition of the force " + force, x.errorPosition(), TouchTracker.NONE);
            Check.same("runText", x.runText(), 0);
            Check.same("raw", x.raw(6, 2), force);
            Check.same("raw of its side", x.raw(6, 1), force / 2);
            Check.same("raw of its corner", x.raw(7, 3), force / 4);
        }
        for (int force = 256; force <= 999; force++) {
            due("p00," + force, 6);
        }
        for (int force = 1000; force <= 1300; force++) {
            due("p00," + force, 7);
        }
        due("p00,2550", 7);
        due("p00,9999", 6);
        due("p00,4294967297", 6);
    }

    /** "without leading zeros" */
    private static void leadingZeros() {
        due("p00,00", 4);
        due("p00,01", 4);
        due("p00,001", 4);
        due("p00,0255", 4);
        due("s;p00,09", 6);
        valid("p00,100");
        valid("p00,10");
        valid("p00,200");
    }

    /** "one or more commands": from one to as many as there is room for. */
    private static void oneCommandToForty() {
        for (int number = 1; number <= 40; number++) {
            TouchTracker x = with("s;".repeat(number - 1) + "s");
            Check.same("errorPosition of " + number, x.errorPosition(), TouchTracker.NONE);
            Check.same("runText of " + number, x.runText(), 0);
            Check.same("frames of " + number, x.frames(), number);
            Check.same("one state is saved", x.savedStates(), 1);
        }
        TouchTracker x = with("p00,255;".repeat(9) + "p00,255;");
        Check.same("ten presses and a semicolon", x.errorPosition(), 80);
        x.clearText();
        Check.type(x, "p00,5;".repeat(12) + "p00,9;x");
        Check.same("79 characters", x.textLength(), 79);
        Check.same("thirteen presses and a release", x.errorPosition(), TouchTracker.NONE);
    }

    /** "with one semicolon between two commands" */
    private static void semicolons() {
        valid("x;x");
        due(";", 0);
        due(";x", 0);
        due("x;", 2);
        due("x;;", 2);
        due("x;;x", 2);
        due("xx", 1);
        due("x,x", 1);
        due("x x", 1);
        due("x:x", 1);
        due("p00,1p00,1", 5);
        due("p00,1s", 5);
        due("p00,1;;s", 6);
        due("p00;1", 3);
    }

    /** "If there is no such index and the text is not valid (it ends too early ..)": the length of the text. */
    private static void endsTooEarly() {
        String text = "p12,34;x;b;s;p75,255";
        for (int length = 0; length <= text.length(); length++) {
            String beginning = text.substring(0, length);
            char last = length == 0 ? ';' : beginning.charAt(length - 1);
            int comma = beginning.lastIndexOf(',');
            boolean ends = "xbs".indexOf(last) >= 0
                    || DIGITS.indexOf(last) >= 0 && comma > beginning.lastIndexOf(';');
            due(beginning, ends ? TouchTracker.NONE : length);
        }
    }

    /** "the smallest index i": what comes behind it does not matter. */
    private static void firstErrorCounts() {
        due("qqq", 0);
        due("q;s;s", 0);
        due("s;q;q", 2);
        due("p00,1;p09,1;p90,1", 8);
        due("p00,1;p90,1;p09,1", 7);
        due("p00,256;q", 6);
        due("P00,1", 0);
        due("S;s", 0);
    }

    /** An error at each index of a full text, the first and the last one too. */
    private static void errorAtEachIndex() {
        String text = "s;p21,45;x;b;".repeat(6) + "x;";
        Check.same("80 characters", text.length(), 80);
        for (int index = 0; index < 80; index++) {
            due(text.substring(0, index) + "?" + text.substring(index + 1), index);
        }
        due(text, 80);
    }

    /** The character 80 counts as each other one does. */
    private static void errorInTheLastCharacter() {
        String before = "s;".repeat(39);
        valid(before + "s");
        due(before + "s;", 80);
        due(before + "ss", 79);
        due(before + "p", 79);
        due(before + "p8", 79);
        due(before + "p7", 80);
        String press = "s;".repeat(36) + "p00,25";
        valid(press);
        valid(press + "5");
        due(press + "6", 78);
        valid("b;" + press);
        String long73 = "p55,10;" + "s;".repeat(33);
        valid(long73 + "p00,255");
        due(long73 + "p00,256", 79);
        due(long73 + "p00,25;", 80);
    }

    /** "no valid text of any length begins with ..": one that is longer than the buffer counts, too. */
    private static void noLimitOfLength() {
        due("s;".repeat(40), 80);
        due("s;".repeat(39) + "p0", 80);
        due("s;".repeat(38) + "p00,", 80);
        due("s;".repeat(38) + "p00;", 79);
        due("s;".repeat(38) + "p00", 79);
        due("s;".repeat(38) + "p0", 78);
    }

    /** "Executes all commands of the text in their order, as press(), release(), calibrate() and scan() do." */
    private static void commandsDoAsTheCallsDo() {
        TouchTracker x = with("p11,90;s;p54,200;s;b;p11,40;s;x;s;p33,255;s;s;p33,9;b;x;p12,99;s");
        TouchTracker y = new TouchTracker();
        int events = 0;
        y.press(1, 1, 90);
        events += y.scan();
        y.press(5, 4, 200);
        events += y.scan();
        y.calibrate();
        y.press(1, 1, 40);
        events += y.scan();
        y.release();
        events += y.scan();
        y.press(3, 3, 255);
        events += y.scan() + y.scan();
        y.press(3, 3, 9);
        y.calibrate();
        y.release();
        y.press(1, 2, 99);
        events += y.scan();
        Check.same("runText", x.runText(), events);
        Check.same("all is as it is after the calls", Check.lookAtState(x), Check.lookAtState(y));
    }

    /** "r stands for a digit from 0 to 7 (a row), c for a digit from 0 to 5 (a column)" */
    private static void pressOfEachCell() {
        for (int cell = 0; cell < 48; cell++) {
            TouchTracker x = with("p" + cell / 6 + cell % 6 + ",255");
            TouchTracker y = new TouchTracker();
            y.press(cell / 6, cell % 6, 255);
            Check.same("runText", x.runText(), 0);
            for (int other = 0; other < 48; other++) {
                Check.same("raw of " + other + " if " + cell + " is pressed", x.raw(other / 6, other % 6),
                        y.raw(other / 6, other % 6));
            }
        }
    }

    /** "Returns the number of events of all frames that are scanned.": none, and as many as there may be. */
    private static void eventsOfAllFrames() {
        Check.same("no frame", with("p00,99;x;b").runText(), 0);
        Check.same("a frame without events", with("s").runText(), 0);
        TouchTracker x = with("p00,99;s;x;s;p00,99;s;x;s;p00,99;s;x;s;p00,99;s;x;s;p00,99;s;x;s;p00,99;s;x;s");
        x.set(TouchTracker.GRACE, 0);
        Check.same("an event each frame", x.runText(), 12);
        Check.same("the same once more", x.runText(), 12);
        Check.same("frames", x.frames(), 24);
        TouchTracker y = with("s;x;s");
        Check.put(y, 50, 0, 2, 4, 12, 14, 16);
        y.set(TouchTracker.GRACE, 0);
        Check.same("six down and six up", y.runText(), 12);
        Check.same("ups", y.ups(), 6);
    }

    /** "The text stays in the buffer." */
    private static void theTextStays() {
        TouchTracker x = Scene.FULL.make();
        for (int run = 0; run < 3; run++) {
            x.runText();
            Check.same("textLength", x.textLength(), 80);
            Check.same("errorPosition", x.errorPosition(), TouchTracker.NONE);
        }
        x.undo();
        Check.same("undo leaves it", x.textLength(), 80);
        Check.same("undo leaves it", x.errorPosition(), TouchTracker.NONE);
    }
}
