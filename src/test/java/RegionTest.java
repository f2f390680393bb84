/** Promises 15, 16 and 17: regions, their sizes, kinds and numbers. */
final class RegionTest {
    public static void main(String[] args) {
        untouched();
        threshold();
        sideNeighborsConnect();
        rowsDoNotRunOn();
        windingRegion();
        cupRegion();
        palms();
        water();
        countsByKind();
        refusals();
        Check.end();
    }

    private static void untouched() {
        TouchTracker x = new TouchTracker();
        Check.same("size", x.regionSize(0, 0), 0);
        Check.same("kind", x.regionKind(0, 0), TouchTracker.NONE);
        for (int kind = 0; kind < 3; kind++) {
            Check.same("regions", x.regions(kind), 0);
        }
    }

    private static void threshold() {
        TouchTracker x = new TouchTracker();
        x.setRaw(7, 5, 19);
        Check.same("below", x.regionSize(7, 5), 0);
        Check.same("kind below", x.regionKind(7, 5), TouchTracker.NONE);
        x.setRaw(7, 5, 20);
        Check.same("at", x.regionSize(7, 5), 1);
        Check.same("kind at", x.regionKind(7, 5), TouchTracker.WATER);
        x.set(TouchTracker.THRESHOLD, 21);
        Check.same("threshold raised", x.regionSize(7, 5), 0);
    }

    private static void sideNeighborsConnect() {
        TouchTracker x = new TouchTracker();
        x.setRaw(2, 2, 50);
        x.setRaw(3, 3, 50);
        Check.same("diagonal cells are two regions", x.regions(TouchTracker.FINGER), 2);
        Check.same("size", x.regionSize(3, 3), 1);
        x.setRaw(2, 3, 50);
        Check.same("joined", x.regions(TouchTracker.FINGER), 1);
        Check.same("joined size", x.regionSize(3, 3), 3);
        Check.same("joined size of the first", x.regionSize(2, 2), 3);
        Check.same("beside it", x.regionSize(3, 2), 0);
    }

    private static void rowsDoNotRunOn() {
        TouchTracker x = new TouchTracker();
        x.setRaw(0, 5, 50);
        x.setRaw(1, 0, 50);
        Check.same("cells 5 and 6 are no neighbors", x.regions(TouchTracker.FINGER), 2);
        Check.same("size", x.regionSize(1, 0), 1);
        Check.same("a peak each", x.contacts(), 2);
    }

    /** A region that winds from the last row up, so that its parts meet late. */
    private static void windingRegion() {
        TouchTracker x = new TouchTracker();
        x.set(TouchTracker.PALM, 48);
        int size = 0;
        for (int row = 0; row < 8; row++) {
            x.setRaw(row, 0, 40);
            x.setRaw(row, 2, 40);
            x.setRaw(row, 4, 40);
            size += 3;
        }
        x.setRaw(7, 1, 40);
        x.setRaw(0, 3, 40);
        size += 2;
        for (int row = 0; row < 8; row++) {
            Check.same("size at " + row, x.regionSize(row, 0), size);
            Check.same("size at the end " + row, x.regionSize(row, 4), size);
        }
        Check.same("one region", x.regions(TouchTracker.FINGER), 1);
        x.setRaw(0, 3, 0);
        Check.same("cut", x.regions(TouchTracker.FINGER), 2);
        Check.same("the cut part", x.regionSize(5, 4), 8);
        Check.same("the rest", x.regionSize(5, 0), 17);
    }

    /** A cup: its left side has a higher number than its right side, and hears of it by the bottom alone. */
    private static void cupRegion() {
        TouchTracker x = new TouchTracker();
        int[][] cells = {{5, 5}, {6, 3}, {6, 5}, {7, 3}, {7, 4}, {7, 5}};
        for (int[] cell : cells) {
            x.setRaw(cell[0], cell[1], 40);
        }
        Check.same("one region", x.regions(TouchTracker.FINGER), 1);
        for (int[] cell : cells) {
            Check.same("size at " + cell[0] + " " + cell[1], x.regionSize(cell[0], cell[1]), 6);
        }
    }

    private static void palms() {
        TouchTracker x = new TouchTracker();
        x.set(TouchTracker.PALM, 3);
        x.setRaw(4, 0, 40);
        x.setRaw(4, 1, 40);
        x.setRaw(4, 2, 40);
        Check.same("PALM cells are no palm", x.regionKind(4, 2), TouchTracker.FINGER);
        x.setRaw(5, 2, 20);
        Check.same("one more is", x.regionKind(4, 0), TouchTracker.PALM_REGION);
        Check.same("each cell of it", x.regionKind(5, 2), TouchTracker.PALM_REGION);
        Check.same("no contacts of a palm", x.contacts(), 0);
        x.set(TouchTracker.SHARP, 255);
        Check.same("a palm is no water", x.regionKind(4, 0), TouchTracker.PALM_REGION);
    }

    private static void water() {
        TouchTracker x = new TouchTracker();
        x.setRaw(6, 3, 29);
        x.setRaw(6, 4, 28);
        Check.same("below SHARP", x.regionKind(6, 4), TouchTracker.WATER);
        Check.same("no contacts of water", x.contacts(), 0);
        x.setRaw(6, 3, 30);
        Check.same("at SHARP", x.regionKind(6, 4), TouchTracker.FINGER);
        Check.same("contacts", x.contacts(), 1);
        x.set(TouchTracker.SHARP, 31);
        Check.same("SHARP raised", x.regionKind(6, 4), TouchTracker.WATER);
        x.setRaw(6, 3, 90);
        Check.same("a greater signal", x.regionKind(6, 4), TouchTracker.FINGER);
        x.setRaw(6, 3, 30);
        Check.same("a greater signal that has gone", x.regionKind(6, 4), TouchTracker.WATER);
    }

    private static void countsByKind() {
        TouchTracker x = new TouchTracker();
        x.set(TouchTracker.PALM, 1);
        x.setRaw(0, 0, 40);
        x.setRaw(0, 2, 40);
        x.setRaw(0, 4, 40);
        x.setRaw(2, 0, 25);
        x.setRaw(2, 2, 25);
        x.setRaw(4, 4, 25);
        x.setRaw(5, 4, 25);
        Check.same("fingers", x.regions(TouchTracker.FINGER), 3);
        Check.same("water", x.regions(TouchTracker.WATER), 2);
        Check.same("palms", x.regions(TouchTracker.PALM_REGION), 1);
    }

    private static void refusals() {
        for (int kind : new int[] {-1, 3, Integer.MIN_VALUE, Integer.MAX_VALUE}) {
            TouchTracker x = new TouchTracker();
            Check.failsOnArgument("regions " + kind, x, () -> x.regions(kind));
        }
        for (int row : new int[] {-1, 8, Integer.MIN_VALUE, Integer.MAX_VALUE}) {
            TouchTracker x = new TouchTracker();
            Check.failsOnIndex("regionSize row " + row, x, () -> x.regionSize(row, 0));
            TouchTracker y = new TouchTracker();
            Check.failsOnIndex("regionKind row " + row, y, () -> y.regionKind(row, 0));
        }
        for (int column : new int[] {-1, 6, Integer.MIN_VALUE, Integer.MAX_VALUE}) {
            TouchTracker x = new TouchTracker();
            Check.failsOnIndex("regionSize column " + column, x, () -> x.regionSize(1, column));
            TouchTracker y = new TouchTracker();
            Check.failsOnIndex("regionKind column " + column, y, () -> y.regionKind(1, column));
        }
    }
}
