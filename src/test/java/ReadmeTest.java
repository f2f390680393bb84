/** What README.md tells of answers: its example, its settings, its texts. */
final class ReadmeTest {
    public static void main(String[] args) {
        example();
        settings();
        errorPositions();
        Check.end();
    }

    private static void example() {
        TouchTracker tracker = new TouchTracker();
        Check.same("press", tracker.press(3, 3, 100), 100);
        Check.same("scan", tracker.scan(), 1);
        Check.yes("the track 0 is down", tracker.isDown(0));
        Check.same("track", tracker.track(0, 0), 300);
        Check.same("release", tracker.release(), 9);
        Check.same("press", tracker.press(4, 3, 100), 100);
        Check.same("match", tracker.match(0), 0);
        Check.same("matchingCost", tracker.matchingCost(), 10000);
        Check.same("scan", tracker.scan(), 0);
        Check.same("track", tracker.track(0, 0), 400);
        Check.same("undo", tracker.undo(), 4);
        for (char c : "x;s;s".toCharArray()) {
            tracker.appendText(c);
        }
        Check.same("errorPosition", tracker.errorPosition(), TouchTracker.NONE);
        Check.same("runText", tracker.runText(), 1);
        Check.same("undo", tracker.undo(), 4);
        Check.yes("the track 0 is down again", tracker.isDown(0));
    }

    private static void settings() {
        int[][] told = {{1, 100, 20}, {1, 48, 12}, {1, 255, 30}, {1, 1000, 250}, {0, 5, 1}};
        for (int setting = 0; setting < told.length; setting++) {
            TouchTracker tracker = new TouchTracker();
            int number = setting;
            int[] range = told[setting];
            Check.same("set to the least", tracker.set(number, range[0]), range[2]);
            Check.same("set to the greatest", tracker.set(number, range[1]), range[0]);
            Check.failsOnArgument("set below the least", tracker, () -> tracker.set(number, range[0] - 1));
            TouchTracker other = new TouchTracker();
            Check.failsOnArgument("set above the greatest", other, () -> other.set(number, range[1] + 1));
        }
    }

    private static void errorPositions() {
        errorPosition("p34;s", 3);
        errorPosition("p34,256", 6);
        errorPosition("s;", 2);
        errorPosition("", 0);
        errorPosition("p34,120", TouchTracker.NONE);
    }

    private static void errorPosition(String text, int due) {
        TouchTracker tracker = new TouchTracker();
        Check.type(tracker, text);
        Check.same("errorPosition of " + text, tracker.errorPosition(), due);
    }
}
