/** Promises 12 and 31: undo and the saved states. */
final class UndoTest {
    public static void main(String[] args) {
        nothingSaved();
        whatIsSaved();
        whatIsNotSaved();
        atMostSix();
        all();
        undoAndGoOn();
        Check.end();
    }

    private static void nothingSaved() {
        TouchTracker x = new TouchTracker();
        Check.failsOnState("undo of a new object", x, () -> x.undo());
        TouchTracker y = new TouchTracker();
        y.release();
        Check.same("undo", y.undo(), 0);
        Check.failsOnState("undo of nothing more", y, () -> y.undo());
    }

    private static void whatIsSaved() {
        TouchTracker x = new TouchTracker();
        x.setRaw(0, 0, 0);
        Check.same("setRaw", x.savedStates(), 1);
        x.press(0, 0, 5);
        Check.same("press", x.savedStates(), 2);
        x.release();
        Check.same("release", x.savedStates(), 3);
        x.calibrate();
        Check.same("calibrate", x.savedStates(), 4);
        x.set(0, 20);
        Check.same("set", x.savedStates(), 5);
        x.scan();
        Check.same("scan", x.savedStates(), 6);
        TouchTracker y = new TouchTracker();
        Check.type(y, "b;b;s");
        Check.same("no state for a text", y.savedStates(), 0);
        y.runText();
        Check.same("runText", y.savedStates(), 1);
    }

    private static void whatIsNotSaved() {
        TouchTracker x = new TouchTracker();
        x.press(0, 0, 50);
        x.appendText('s');
        x.clearText();
        x.errorPosition();
        Check.look(x);
        Check.same("only press", x.savedStates(), 1);
        Check.same("undo", x.undo(), 0);
        Check.same("undo saves nothing", x.savedStates(), 0);
    }

    private static void atMostSix() {
        TouchTracker x = new TouchTracker();
        for (int value = 1; value <= 9; value++) {
            x.setRaw(0, 0, value);
            Check.same("saved", x.savedStates(), value < 6 ? value : 6);
        }
        for (int left = 5; left >= 0; left--) {
            Check.same("undo", x.undo(), left);
            Check.same("raw", x.raw(0, 0), 3 + left);
        }
        Check.failsOnState("a seventh undo", x, () -> x.undo());
    }

    private static void all() {
        TouchTracker x = new TouchTracker();
        x.press(1, 1, 80);
        x.calibrate();
        x.press(5, 4, 90);
        x.set(TouchTracker.GRACE, 0);
        x.set(TouchTracker.GATE, 100);
        x.scan();
        x.scan();
        Check.same("age", x.track(0, 2), 1);
        String before = Check.lookAtState(x);
        x.release();
        x.calibrate();
        x.set(TouchTracker.THRESHOLD, 5);
        x.scan();
        x.press(0, 0, 99);
        x.scan();
        for (int left = 5; left >= 0; left--) {
            x.undo();
        }
        Check.same("all is as it was", Check.lookAtState(x), before);
        Check.same("frames", x.frames(), 2);
        Check.same("age", x.track(0, 2), 1);
        Check.same("downs", x.downs(), 1);
        Check.same("ups", x.ups(), 0);
        Check.same("the baselines", x.signal(5, 4), 90);
    }

    private static void undoAndGoOn() {
        TouchTracker x = new TouchTracker();
        x.setRaw(0, 0, 1);
        x.setRaw(0, 0, 2);
        x.undo();
        x.setRaw(0, 0, 3);
        Check.same("saved", x.savedStates(), 2);
        x.undo();
        Check.same("before 3", x.raw(0, 0), 1);
        x.undo();
        Check.same("before 1", x.raw(0, 0), 0);
        // Two objects have nothing in common.
        TouchTracker y = new TouchTracker();
        x.set(TouchTracker.PALM, 3);
        Check.same("another object's setting", y.setting(TouchTracker.PALM), 12);
        Check.same("another object's states", y.savedStates(), 0);
    }
}
