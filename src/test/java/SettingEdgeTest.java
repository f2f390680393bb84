/** Section 2, SETTINGS, with promises 6 and 18: a test for each sentence with an edge. */
final class SettingEdgeTest {
    private static final String[] NAMES = {"THRESHOLD", "PALM", "SHARP", "GATE", "GRACE"};

    public static void main(String[] args) {
        range(TouchTracker.THRESHOLD, 1, 100, 20);
        range(TouchTracker.PALM, 1, 48, 12);
        range(TouchTracker.SHARP, 1, 255, 30);
        range(TouchTracker.GATE, 1, 1000, 250);
        range(TouchTracker.GRACE, 0, 5, 1);
        noSetting();
        apart();
        Check.end();
    }

    /** "THRESHOLD (0), from 1 to 100, at first 20", and so for each setting; "Returns the previous value." */
    private static void range(int setting, int least, int greatest, int first) {
        String name = NAMES[setting];
        Check.same(name + " at first", new TouchTracker().setting(setting), first);
        for (int value = least; value <= greatest; value++) {
            TouchTracker x = new TouchTracker();
            Check.same(name + " before " + value, x.set(setting, value), first);
            Check.same(name, x.setting(setting), value);
            int other = least + greatest - value;
            Check.same(name + " before " + other, x.set(setting, other), value);
            Check.same(name, x.setting(setting), other);
        }
        for (int value : new int[] {least - 1, greatest + 1, least - 2, greatest + 2, -greatest}) {
            TouchTracker x = new TouchTracker();
            Check.failsOnArgument(name + " of " + value, x, () -> x.set(setting, value));
            Check.same(name + " stands", x.setting(setting), first);
        }
        atTheEnds(setting, least);
        atTheEnds(setting, greatest);
    }

    /** A value that is refused leaves the least and the greatest value as they are, too. */
    private static void atTheEnds(int setting, int end) {
        for (int value : new int[] {-1, 1001}) {
            TouchTracker x = new TouchTracker();
            x.set(setting, end);
            Check.failsOnArgument(NAMES[setting] + " of " + value, x, () -> x.set(setting, value));
            Check.same(NAMES[setting] + " stands", x.setting(setting), end);
        }
    }

    /** "Throws IndexOutOfBoundsException if there is no such setting" */
    private static void noSetting() {
        for (int setting : new int[] {-1, 5}) {
            for (int value : new int[] {0, 1, 5, 100, 1000, 1001}) {
                TouchTracker x = new TouchTracker();
                Check.failsOnIndex("set of " + setting, x, () -> x.set(setting, value));
            }
            TouchTracker x = new TouchTracker();
            Check.failsOnIndex("setting " + setting, x, () -> x.setting(setting));
        }
    }

    /** One setting does not change another one. */
    private static void apart() {
        int[] values = {100, 48, 255, 1000, 5};
        for (int setting = 0; setting < 5; setting++) {
            TouchTracker x = new TouchTracker();
            x.set(setting, values[setting]);
            int[] due = {20, 12, 30, 250, 1};
            due[setting] = values[setting];
            for (int other = 0; other < 5; other++) {
                Check.same(NAMES[other] + " beside " + NAMES[setting], x.setting(other), due[other]);
            }
        }
    }
}
