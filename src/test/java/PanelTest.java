/** Promises 1 to 5, 13, 14 and 30: a new object, raw values, signals, and their mean. */
final class PanelTest {
    private static final int[] OFF_ROWS = {-1, 8, Integer.MIN_VALUE, Integer.MAX_VALUE};
    private static final int[] OFF_COLUMNS = {-1, 6, 7, Integer.MIN_VALUE, Integer.MAX_VALUE};

    public static void main(String[] args) {
        newObject();
        setRaw();
        setRawRefuses();
        press();
        pressWithAllForce();
        pressAtEdges();
        pressEndsAt255();
        pressRefuses();
        release();
        calibrate();
        rawAndSignal();
        meanSignal();
        Check.end();
    }

    private static void newObject() {
        TouchTracker x = new TouchTracker();
        for (int row = 0; row < 8; row++) {
            for (int column = 0; column < 6; column++) {
                Check.same("new raw", x.raw(row, column), 0);
                Check.same("new signal", x.signal(row, column), 0);
            }
        }
        for (int track = 0; track < 6; track++) {
            Check.yes("a new track is up", !x.isDown(track));
        }
        int[] settings = {20, 12, 30, 250, 1};
        for (int setting = 0; setting < 5; setting++) {
            Check.same("new setting " + setting, x.setting(setting), settings[setting]);
        }
        Check.same("new contacts", x.contacts(), 0);
        Check.same("new frames", x.frames(), 0);
        Check.same("new downs", x.downs(), 0);
        Check.same("new ups", x.ups(), 0);
        Check.same("new savedStates", x.savedStates(), 0);
        Check.same("new textLength", x.textLength(), 0);
        Check.same("new calibrate: all baselines are 0", x.calibrate(), 0);
    }

    private static void setRaw() {
        TouchTracker x = new TouchTracker();
        Check.same("setRaw first", x.setRaw(7, 5, 255), 0);
        Check.same("setRaw again", x.setRaw(7, 5, 0), 255);
        Check.same("setRaw third", x.setRaw(7, 5, 1), 0);
        Check.same("raw of it", x.raw(7, 5), 1);
        Check.same("raw of the cell above", x.raw(6, 5), 0);
        x.setRaw(2, 3, 77);
        Check.same("raw 2 3", x.raw(2, 3), 77);
        Check.same("raw 3 2", x.raw(3, 2), 0);
        Check.same("saved", x.savedStates(), 4);
        x.undo();
        Check.same("raw after undo", x.raw(2, 3), 0);
    }

    private static void setRawRefuses() {
        TouchTracker x = new TouchTracker();
        x.setRaw(0, 0, 9);
        Check.failsOnArgument("setRaw 256", x, () -> x.setRaw(0, 0, 256));
        TouchTracker w = new TouchTracker();
        Check.failsOnArgument("setRaw -1", w, () -> w.setRaw(0, 0, -1));
        for (int row : OFF_ROWS) {
            TouchTracker y = new TouchTracker();
            Check.failsOnIndex("setRaw in row " + row, y, () -> y.setRaw(row, 0, 300));
        }
        for (int column : OFF_COLUMNS) {
            TouchTracker y = new TouchTracker();
            Check.failsOnIndex("setRaw in column " + column, y, () -> y.setRaw(0, column, 1));
        }
    }

    private static void press() {
        TouchTracker x = new TouchTracker();
        Check.same("press 7", x.press(3, 3, 7), 7);
        int[][] due = {{1, 3, 1}, {3, 7, 3}, {1, 3, 1}};
        for (int row = 0; row < 8; row++) {
            for (int column = 0; column < 6; column++) {
                boolean near = row >= 2 && row <= 4 && column >= 2 && column <= 4;
                Check.same("raw " + row + " " + column, x.raw(row, column), near ? due[row - 2][column - 2] : 0);
            }
        }
        Check.same("press again", x.press(3, 3, 200), 207);
        Check.same("side", x.raw(3, 2), 103);
        Check.same("corner", x.raw(2, 2), 51);
        Check.same("press of 1", x.press(0, 0, 1), 1);
        Check.same("half of 1", x.raw(0, 1), 0);
        Check.same("saved", x.savedStates(), 3);
        x.undo();
        x.undo();
        Check.same("after undo", x.raw(3, 3), 7);
    }

    /** A great force reaches no further than a small one. */
    private static void pressWithAllForce() {
        TouchTracker x = new TouchTracker();
        x.press(4, 2, 255);
        for (int row = 0; row < 8; row++) {
            for (int column = 0; column < 6; column++) {
                int away = Math.abs(row - 4) + Math.abs(column - 2);
                boolean near = Math.abs(row - 4) <= 1 && Math.abs(column - 2) <= 1;
                Check.same("raw " + row + " " + column, x.raw(row, column), near ? 255 >> away : 0);
            }
        }
    }

    private static void pressAtEdges() {
        TouchTracker x = new TouchTracker();
        x.press(2, 0, 100);
        Check.same("the row before ends untouched", x.raw(1, 5), 0);
        Check.same("the row itself ends untouched", x.raw(2, 5), 0);
        Check.same("left corner below", x.raw(3, 1), 25);
        x.press(7, 5, 8);
        Check.same("last cell", x.raw(7, 5), 8);
        Check.same("above last", x.raw(6, 5), 4);
        Check.same("before last", x.raw(7, 4), 4);
        Check.same("corner of last", x.raw(6, 4), 2);
    }

    private static void pressEndsAt255() {
        TouchTracker x = new TouchTracker();
        x.setRaw(4, 4, 250);
        x.setRaw(4, 5, 254);
        x.setRaw(3, 3, 255);
        x.setRaw(5, 4, 252);
        Check.same("press to 255", x.press(4, 4, 6), 255);
        Check.same("side to 255", x.raw(4, 5), 255);
        Check.same("corner stays at 255", x.raw(3, 3), 255);
        Check.same("side to just 255", x.raw(5, 4), 255);
        Check.same("press beyond", x.press(4, 4, 255), 255);
    }

    private static void pressRefuses() {
        TouchTracker x = new TouchTracker();
        x.press(1, 1, 50);
        Check.failsOnArgument("press 0", x, () -> x.press(0, 0, 0));
        TouchTracker z = new TouchTracker();
        Check.failsOnArgument("press 256", z, () -> z.press(0, 0, 256));
        for (int row : OFF_ROWS) {
            TouchTracker y = new TouchTracker();
            Check.failsOnIndex("press in row " + row, y, () -> y.press(row, 3, 0));
        }
        for (int column : OFF_COLUMNS) {
            TouchTracker y = new TouchTracker();
            Check.failsOnIndex("press in column " + column, y, () -> y.press(3, column, 5));
        }
    }

    private static void release() {
        TouchTracker x = new TouchTracker();
        x.press(0, 0, 3);
        x.setRaw(5, 5, 200);
        x.calibrate();
        Check.same("release counts the cells that were not 0", x.release(), 4);
        Check.same("raw", x.raw(5, 5), 0);
        Check.same("release again", x.release(), 0);
        Check.same("saved even if nothing changes", x.savedStates(), 5);
        x.setRaw(5, 5, 210);
        Check.same("the baselines stand", x.signal(5, 5), 10);
    }

    private static void calibrate() {
        TouchTracker x = new TouchTracker();
        x.setRaw(0, 0, 40);
        x.setRaw(7, 5, 60);
        Check.same("calibrate", x.calibrate(), 2);
        Check.same("raw stands", x.raw(7, 5), 60);
        Check.same("signal is 0", x.signal(7, 5), 0);
        Check.same("calibrate again", x.calibrate(), 0);
        Check.same("saved even if nothing changes", x.savedStates(), 4);
        x.setRaw(0, 0, 41);
        Check.same("one changes", x.calibrate(), 1);
        x.undo();
        Check.same("undo brings the baseline back", x.signal(0, 0), 1);
    }

    private static void rawAndSignal() {
        TouchTracker x = new TouchTracker();
        x.setRaw(3, 1, 100);
        x.calibrate();
        x.setRaw(3, 1, 99);
        Check.same("no negative signal", x.signal(3, 1), 0);
        x.setRaw(3, 1, 255);
        Check.same("signal", x.signal(3, 1), 155);
        for (int row : OFF_ROWS) {
            TouchTracker y = new TouchTracker();
            Check.failsOnIndex("raw in row " + row, y, () -> y.raw(row, 0));
            TouchTracker z = new TouchTracker();
            Check.failsOnIndex("signal in row " + row, z, () -> z.signal(row, 0));
        }
        for (int column : OFF_COLUMNS) {
            TouchTracker y = new TouchTracker();
            Check.failsOnIndex("raw in column " + column, y, () -> y.raw(0, column));
            TouchTracker z = new TouchTracker();
            Check.failsOnIndex("signal in column " + column, z, () -> z.signal(0, column));
        }
    }

    private static void meanSignal() {
        TouchTracker x = new TouchTracker();
        Check.same("no cell touched", x.meanSignal(), 0.0f);
        x.setRaw(3, 3, 19);
        Check.same("below the threshold", x.meanSignal(), 0.0f);
        x.setRaw(0, 0, 50);
        x.setRaw(5, 5, 20);
        Check.same("mean of 50 and 20", x.meanSignal(), 35.0f);
        x.set(TouchTracker.THRESHOLD, 19);
        Check.same("mean of 50, 20 and 19", x.meanSignal(), 89.0f / 3.0f);
        x.calibrate();
        x.setRaw(0, 0, 81);
        Check.same("of signals, not of raw values", x.meanSignal(), 31.0f);
        x.setRaw(0, 0, 50);
        Check.same("all calibrated", x.meanSignal(), 0.0f);
    }
}
