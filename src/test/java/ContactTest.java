/** Promises 19 and 20: peaks, blocks, masses, positions, and the choice of six. */
final class ContactTest {
    public static void main(String[] args) {
        positions();
        positionsFarFromTheOrigin();
        blockCountsUntouchedCells();
        equalNeighbors();
        greaterNeighborOfAPalm();
        severalPeaksOfARegion();
        theHeaviestSix();
        equalMasses();
        afterSettings();
        refusals();
        Check.end();
    }

    private static void positions() {
        TouchTracker x = new TouchTracker();
        x.setRaw(0, 0, 50);
        x.setRaw(0, 1, 30);
        Check.contact(x, 0, 0, 37, 80, 0);
        x.setRaw(1, 1, 3);
        Check.contact(x, 0, 3, 39, 83, 0);
        Check.same("contacts", x.contacts(), 1);
        for (int part = 0; part < 4; part++) {
            Check.same("no contact 1", x.contact(1, part), TouchTracker.NONE);
            Check.same("no contact 6", x.contact(6, part), TouchTracker.NONE);
            Check.same("no last contact", x.contact(Integer.MAX_VALUE, part), TouchTracker.NONE);
        }
    }

    private static void positionsFarFromTheOrigin() {
        TouchTracker x = new TouchTracker();
        x.setRaw(7, 5, 255);
        x.setRaw(6, 5, 254);
        x.setRaw(7, 4, 254);
        x.setRaw(6, 4, 254);
        Check.contact(x, 0, 650, 450, 1017, 47);
        x.setRaw(6, 4, 0);
        Check.contact(x, 0, 666, 466, 763, 47);
    }

    private static void blockCountsUntouchedCells() {
        TouchTracker x = new TouchTracker();
        x.setRaw(3, 3, 40);
        x.setRaw(2, 2, 19);
        x.setRaw(4, 5, 200);
        Check.contact(x, 0, (40 * 300 + 19 * 200) / 59, (40 * 300 + 19 * 200) / 59, 59, 21);
        Check.contact(x, 1, 400, 500, 200, 29);
        x.setRaw(4, 4, 10);
        Check.contact(x, 0, (40 * 300 + 19 * 200 + 10 * 400) / 69, (40 * 300 + 19 * 200 + 10 * 400) / 69, 69, 21);
        Check.contact(x, 1, 400, (200 * 500 + 10 * 400) / 210, 210, 29);
    }

    private static void equalNeighbors() {
        int[][] later = {{3, 4}, {4, 2}, {4, 3}, {4, 4}};
        for (int[] cell : later) {
            TouchTracker x = new TouchTracker();
            x.setRaw(3, 3, 50);
            x.setRaw(cell[0], cell[1], 50);
            Check.same("one peak", x.contacts(), 1);
            Check.same("the lower number", x.contact(0, 3), 21);
        }
        int[][] earlier = {{2, 2}, {2, 3}, {2, 4}, {3, 2}};
        for (int[] cell : earlier) {
            TouchTracker x = new TouchTracker();
            x.setRaw(3, 3, 50);
            x.setRaw(cell[0], cell[1], 50);
            Check.same("one peak", x.contacts(), 1);
            Check.same("the lower number", x.contact(0, 3), 6 * cell[0] + cell[1]);
        }
        TouchTracker x = new TouchTracker();
        x.setRaw(0, 0, 50);
        x.setRaw(0, 1, 50);
        x.setRaw(0, 2, 50);
        x.setRaw(0, 3, 50);
        Check.same("a flat row has one peak", x.contacts(), 1);
    }

    private static void greaterNeighborOfAPalm() {
        TouchTracker x = new TouchTracker();
        x.set(TouchTracker.PALM, 2);
        x.setRaw(0, 0, 100);
        x.setRaw(0, 1, 100);
        x.setRaw(0, 2, 100);
        x.setRaw(1, 3, 60);
        Check.same("the palm", x.regionKind(0, 0), TouchTracker.PALM_REGION);
        Check.same("the finger", x.regionKind(1, 3), TouchTracker.FINGER);
        Check.same("a greater corner neighbor leaves no peak", x.contacts(), 0);
        x.setRaw(1, 3, 100);
        Check.same("an equal one with a lower number neither", x.contacts(), 0);
        x.setRaw(1, 3, 101);
        Check.contact(x, 0, 50, 250, 201, 9);
    }

    private static void severalPeaksOfARegion() {
        TouchTracker x = new TouchTracker();
        x.setRaw(4, 1, 60);
        x.setRaw(4, 2, 30);
        x.setRaw(4, 3, 70);
        Check.same("one region", x.regions(TouchTracker.FINGER), 1);
        Check.same("two peaks", x.contacts(), 2);
        Check.contact(x, 0, 400, (60 * 100 + 30 * 200) / 90, 90, 25);
        Check.contact(x, 1, 400, (30 * 200 + 70 * 300) / 100, 100, 27);
    }

    private static final int[][] EIGHT = {{0, 0}, {0, 2}, {0, 4}, {2, 0}, {2, 2}, {2, 4}, {4, 0}, {4, 2}};

    private static void theHeaviestSix() {
        TouchTracker x = new TouchTracker();
        int[] masses = {41, 90, 44, 42, 80, 43, 70, 60};
        for (int i = 0; i < EIGHT.length; i++) {
            x.setRaw(EIGHT[i][0], EIGHT[i][1], masses[i]);
        }
        Check.same("six contacts", x.contacts(), 6);
        int[] kept = {1, 2, 4, 5, 6, 7};
        for (int contact = 0; contact < 6; contact++) {
            int[] cell = EIGHT[kept[contact]];
            Check.contact(x, contact, 100 * cell[0], 100 * cell[1], masses[kept[contact]], 6 * cell[0] + cell[1]);
        }
        Check.same("no seventh", x.contact(6, 2), TouchTracker.NONE);
        Check.same("all regions stand", x.regions(TouchTracker.FINGER), 8);
    }

    private static void equalMasses() {
        TouchTracker x = new TouchTracker();
        for (int[] cell : EIGHT) {
            x.setRaw(cell[0], cell[1], 50);
        }
        Check.same("six contacts", x.contacts(), 6);
        for (int contact = 0; contact < 6; contact++) {
            Check.same("the lower peaks", x.contact(contact, 3), 6 * EIGHT[contact][0] + EIGHT[contact][1]);
        }
        x.setRaw(4, 2, 51);
        Check.same("the heaviest comes in", x.contact(5, 3), 26);
        Check.same("the last of the others goes", x.contact(4, 3), 14);
        // Mass decides, not the signal of the peak.
        x.setRaw(5, 0, 19);
        Check.same("a heavier block", x.contact(4, 3), 24);
        Check.same("the fifth of the equal ones goes", x.contact(3, 3), 12);
    }

    private static void afterSettings() {
        TouchTracker x = new TouchTracker();
        x.setRaw(1, 1, 25);
        x.setRaw(1, 3, 40);
        Check.same("one of them is water", x.contacts(), 1);
        x.set(TouchTracker.SHARP, 25);
        Check.same("none is water", x.contacts(), 2);
        x.set(TouchTracker.THRESHOLD, 41);
        Check.same("none is touched", x.contacts(), 0);
        TouchTracker y = new TouchTracker();
        y.set(TouchTracker.THRESHOLD, 1);
        y.set(TouchTracker.SHARP, 1);
        y.setRaw(7, 5, 1);
        Check.same("the least contact of all", y.contacts(), 1);
        Check.contact(y, 0, 700, 500, 1, 47);
    }

    private static void refusals() {
        TouchTracker x = new TouchTracker();
        Check.failsOnIndex("contact -1", x, () -> x.contact(-1, 0));
        TouchTracker y = new TouchTracker();
        Check.failsOnIndex("contact -1 part 4", y, () -> y.contact(Integer.MIN_VALUE, 4));
        for (int part : new int[] {-1, 4, Integer.MIN_VALUE, Integer.MAX_VALUE}) {
            TouchTracker z = new TouchTracker();
            Check.failsOnArgument("part " + part, z, () -> z.contact(0, part));
        }
    }
}
