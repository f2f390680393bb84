/** Promises 6 and 18: the settings and their ranges. */
final class SettingsTest {
    private static final int[] LEAST = {1, 1, 1, 1, 0};
    private static final int[] GREATEST = {100, 48, 255, 1000, 5};
    private static final int[] FIRST = {20, 12, 30, 250, 1};

    public static void main(String[] args) {
        for (int setting = 0; setting < 5; setting++) {
            range(setting);
        }
        for (int setting : new int[] {-1, 5, Integer.MIN_VALUE, Integer.MAX_VALUE}) {
            noSuchSetting(setting);
        }
        Check.end();
    }

    private static void range(int setting) {
        TouchTracker x = new TouchTracker();
        Check.same("first value of " + setting, x.set(setting, LEAST[setting]), FIRST[setting]);
        Check.same("least value of " + setting, x.setting(setting), LEAST[setting]);
        Check.same("previous value of " + setting, x.set(setting, GREATEST[setting]), LEAST[setting]);
        Check.same("greatest value of " + setting, x.set(setting, GREATEST[setting]), GREATEST[setting]);
        Check.same("saved even if nothing changes", x.savedStates(), 3);
        for (int other = 0; other < 5; other++) {
            if (other != setting) {
                Check.same("other setting " + other, x.setting(other), FIRST[other]);
            }
        }
        x.undo();
        x.undo();
        Check.same("after undo", x.setting(setting), LEAST[setting]);
        for (int value : new int[] {LEAST[setting] - 1, GREATEST[setting] + 1, Integer.MIN_VALUE, Integer.MAX_VALUE}) {
            TouchTracker y = new TouchTracker();
            Check.failsOnArgument("set " + setting + " to " + value, y, () -> y.set(setting, value));
        }
    }

    private static void noSuchSetting(int setting) {
        TouchTracker x = new TouchTracker();
        Check.failsOnIndex("setting " + setting, x, () -> x.setting(setting));
        TouchTracker y = new TouchTracker();
        Check.failsOnIndex("set " + setting, y, () -> y.set(setting, 10));
        TouchTracker z = new TouchTracker();
        Check.failsOnIndex("set " + setting + " to no value", z, () -> z.set(setting, 0));
    }
}
