/** "An object is used for at most 512 calls after it has been made": the last of them answers as the first does. */
final class LifeTest {
    private static final int CALLS = 512;

    public static void main(String[] args) {
        framesToTheLastCall();
        mostFrames();
        eventsToTheLastCall();
        undoneToTheLastCall();
        refusedToTheLastCall();
        Check.end();
    }

    private static void framesToTheLastCall() {
        TouchTracker x = new TouchTracker();
        for (int call = 1; call < CALLS; call++) {
            Check.same("scan", x.scan(), 0);
        }
        Check.same("frames", x.frames(), CALLS - 1);
    }

    /** Many frames, and a great age: forty frames with each run of a text. */
    private static void mostFrames() {
        TouchTracker x = new TouchTracker();
        x.press(3, 3, 99);
        Check.type(x, "s;".repeat(39) + "s");
        int calls = 2 + 79;
        int frames = 0;
        while (calls < CALLS - 2) {
            Check.same("runText", x.runText(), frames == 0 ? 1 : 0);
            calls++;
            frames += 40;
        }
        Check.same("age", x.track(0, 2), frames - 1);
        Check.same("frames", x.frames(), frames);
    }

    /** Many events: six downs and six ups with each run of a text. */
    private static void eventsToTheLastCall() {
        TouchTracker x = new TouchTracker();
        x.set(TouchTracker.GRACE, 0);
        String text = "p00,39;p03,39;p30,39;p33,39;p60,39;p63,39;s;x;s;s";
        Check.type(x, text);
        int calls = 2 + text.length();
        int runs = 0;
        while (calls < CALLS - 2) {
            Check.same("runText", x.runText(), 12);
            calls++;
            runs++;
        }
        Check.same("downs", x.downs(), 6 * runs);
        Check.same("ups", x.ups(), 6 * runs);
    }

    private static void undoneToTheLastCall() {
        TouchTracker x = new TouchTracker();
        for (int call = 0; call < CALLS - 2; call += 2) {
            Check.same("press", x.press(call % 8, call % 6, 1 + call % 255), 1 + call % 255);
            Check.same("undo", x.undo(), 0);
        }
        Check.same("savedStates", x.savedStates(), 0);
        Check.same("release", x.release(), 0);
    }

    private static void refusedToTheLastCall() {
        TouchTracker x = new TouchTracker();
        for (int call = 1; call < CALLS; call++) {
            boolean thrown = false;
            try {
                x.undo();
            } catch (IllegalStateException e) {
                thrown = true;
            }
            Check.yes("undo is refused", thrown);
        }
        Check.same("savedStates", x.savedStates(), 0);
    }
}
