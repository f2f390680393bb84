/** Promises 7 and 21 to 29: frames, tracks, and the best matching. */
final class TrackTest {
    public static void main(String[] args) {
        firstFrame();
        following();
        grace();
        noGrace();
        gateIsIncluded();
        firstTrackFirst();
        firstContactFirst();
        leastTotalCost();
        noContactTwice();
        upInAFrameIsNotGivenInIt();
        noTrackLeft();
        lowestTrackIsGiven();
        squaredDistances();
        queriesChangeNothing();
        refusals();
        Check.end();
    }

    private static void due(TouchTracker x, int track, int row, int column, int age, int missed) {
        Check.yes("track " + track + " is down", x.isDown(track));
        Check.same("row of " + track, x.track(track, 0), row);
        Check.same("column of " + track, x.track(track, 1), column);
        Check.same("age of " + track, x.track(track, 2), age);
        Check.same("missed of " + track, x.track(track, 3), missed);
    }

    private static void dueUp(TouchTracker x, int track) {
        Check.yes("track " + track + " is up", !x.isDown(track));
        for (int part = 0; part < 4; part++) {
            Check.same("part of a track that is up", x.track(track, part), TouchTracker.NONE);
        }
    }

    private static void dueCounts(TouchTracker x, int frames, int downs, int ups) {
        Check.same("frames", x.frames(), frames);
        Check.same("downs", x.downs(), downs);
        Check.same("ups", x.ups(), ups);
    }

    /** Lifts all fingers and puts one on each of the cells (row and column in turn). */
    private static void touch(TouchTracker x, int... cells) {
        x.release();
        for (int i = 0; i + 1 < cells.length; i += 2) {
            x.setRaw(cells[i], cells[i + 1], 50);
        }
    }

    private static void firstFrame() {
        TouchTracker x = new TouchTracker();
        Check.same("a frame of nothing", x.scan(), 0);
        dueCounts(x, 1, 0, 0);
        touch(x, 1, 1, 5, 3);
        Check.same("tracks that would be down", x.downIfScanned(), 3);
        Check.same("events", x.scan(), 2);
        due(x, 0, 100, 100, 0, 0);
        due(x, 1, 500, 300, 0, 0);
        dueUp(x, 2);
        dueCounts(x, 2, 2, 0);
        Check.same("saved", x.savedStates(), 5);
        x.undo();
        dueUp(x, 0);
        dueCounts(x, 1, 0, 0);
    }

    private static void following() {
        TouchTracker x = new TouchTracker();
        touch(x, 1, 1, 5, 3);
        x.scan();
        touch(x, 2, 1, 5, 4);
        Check.same("match 0", x.match(0), 0);
        Check.same("match 1", x.match(1), 1);
        Check.same("match of a track that is up", x.match(2), TouchTracker.NONE);
        Check.same("cost", x.matchingCost(), 20000);
        Check.same("events", x.scan(), 0);
        due(x, 0, 200, 100, 1, 0);
        due(x, 1, 500, 400, 1, 0);
        x.scan();
        due(x, 0, 200, 100, 2, 0);
        dueCounts(x, 3, 2, 0);
    }

    private static void grace() {
        TouchTracker x = new TouchTracker();
        x.set(TouchTracker.GRACE, 2);
        touch(x, 4, 4);
        x.scan();
        x.release();
        Check.same("cost of none", x.matchingCost(), 62500);
        Check.same("first missed", x.scan(), 0);
        due(x, 0, 400, 400, 0, 1);
        Check.same("second missed", x.scan(), 0);
        due(x, 0, 400, 400, 0, 2);
        touch(x, 4, 4);
        x.scan();
        due(x, 0, 400, 400, 1, 0);
        x.release();
        x.scan();
        x.scan();
        Check.same("would go up", x.downIfScanned(), 0);
        Check.same("third missed", x.scan(), 1);
        dueUp(x, 0);
        dueCounts(x, 7, 1, 1);
        Check.same("nothing goes up twice", x.scan(), 0);
        Check.same("cost without tracks", x.matchingCost(), 0);
    }

    private static void noGrace() {
        TouchTracker x = new TouchTracker();
        x.set(TouchTracker.GRACE, 5);
        touch(x, 4, 4);
        x.scan();
        x.release();
        x.scan();
        x.scan();
        due(x, 0, 400, 400, 0, 2);
        x.set(TouchTracker.GRACE, 0);
        due(x, 0, 400, 400, 0, 2);
        Check.same("grace taken away", x.scan(), 1);
        dueUp(x, 0);
        touch(x, 0, 0);
        x.scan();
        x.scan();
        due(x, 0, 0, 0, 1, 0);
        x.release();
        Check.same("no grace", x.scan(), 1);
        dueUp(x, 0);
        touch(x, 6, 4);
        x.scan();
        // A track that is down anew has nothing of what it was before.
        due(x, 0, 600, 400, 0, 0);
        x.release();
        Check.same("no grace again", x.scan(), 1);
        dueUp(x, 0);
    }

    private static void gateIsIncluded() {
        TouchTracker x = new TouchTracker();
        touch(x, 0, 0);
        x.scan();
        touch(x, 0, 2);
        x.set(TouchTracker.GATE, 199);
        Check.same("beyond the gate", x.match(0), TouchTracker.NONE);
        Check.same("cost", x.matchingCost(), 199 * 199);
        Check.same("the track misses, another one starts", x.downIfScanned(), 3);
        x.set(TouchTracker.GATE, 200);
        Check.same("at the gate", x.match(0), 0);
        Check.same("cost", x.matchingCost(), 40000);
        Check.same("the track follows", x.downIfScanned(), 1);
    }

    private static void firstTrackFirst() {
        TouchTracker x = new TouchTracker();
        touch(x, 0, 0, 0, 4);
        x.scan();
        touch(x, 0, 2);
        Check.same("the first track gets it", x.match(0), 0);
        Check.same("the second gets none", x.match(1), TouchTracker.NONE);
        Check.same("cost", x.matchingCost(), 40000 + 62500);
        x.scan();
        due(x, 0, 0, 200, 1, 0);
        due(x, 1, 0, 400, 0, 1);
    }

    private static void firstContactFirst() {
        TouchTracker x = new TouchTracker();
        touch(x, 4, 2);
        x.scan();
        touch(x, 4, 0, 4, 4);
        Check.same("the first of two as near", x.match(0), 0);
        touch(x, 2, 2, 6, 2);
        Check.same("the first of two as near", x.match(0), 0);
        x.scan();
        due(x, 0, 200, 200, 1, 0);
        due(x, 1, 600, 200, 0, 0);
        // Both ways to pair two with two cost the same.
        TouchTracker y = new TouchTracker();
        y.set(TouchTracker.GATE, 1000);
        touch(y, 2, 0, 2, 4);
        y.scan();
        touch(y, 0, 2, 4, 2);
        Check.same("the lower number first", y.match(0), 0);
        Check.same("the other one", y.match(1), 1);
    }

    private static void leastTotalCost() {
        TouchTracker x = new TouchTracker();
        touch(x, 0, 0, 0, 2);
        x.scan();
        touch(x, 0, 2, 0, 4);
        Check.same("none is cheaper here", x.match(0), TouchTracker.NONE);
        Check.same("the near one", x.match(1), 0);
        Check.same("cost", x.matchingCost(), 62500);
        x.set(TouchTracker.GATE, 283);
        Check.same("two moves are cheaper now", x.match(0), 0);
        Check.same("two moves are cheaper now", x.match(1), 1);
        Check.same("cost", x.matchingCost(), 80000);
        x.set(TouchTracker.GATE, 282);
        Check.same("by a little", x.match(0), TouchTracker.NONE);
        Check.same("cost", x.matchingCost(), 282 * 282);
    }

    private static void noContactTwice() {
        TouchTracker x = new TouchTracker();
        x.set(TouchTracker.GATE, 1000);
        touch(x, 1, 0, 1, 2, 1, 4);
        x.scan();
        touch(x, 4, 1, 4, 3);
        int[] matches = {x.match(0), x.match(1), x.match(2)};
        Check.same("match 0", matches[0], 0);
        Check.same("match 1", matches[1], 1);
        Check.same("match 2", matches[2], TouchTracker.NONE);
        Check.same("cost", x.matchingCost(), 100000 + 100000 + 1000000);
    }

    private static void upInAFrameIsNotGivenInIt() {
        TouchTracker x = new TouchTracker();
        x.set(TouchTracker.GRACE, 0);
        touch(x, 0, 0);
        x.scan();
        touch(x, 7, 5);
        Check.same("not the track 0", x.downIfScanned(), 2);
        Check.same("one up and one down", x.scan(), 2);
        dueUp(x, 0);
        due(x, 1, 700, 500, 0, 0);
        dueCounts(x, 2, 2, 1);
        touch(x, 7, 5, 0, 0);
        x.scan();
        due(x, 0, 0, 0, 0, 0);
        due(x, 1, 700, 500, 1, 0);
    }

    private static void noTrackLeft() {
        TouchTracker x = new TouchTracker();
        x.set(TouchTracker.GATE, 1);
        touch(x, 0, 0, 0, 2, 0, 4, 2, 0, 2, 2, 2, 4);
        Check.same("six downs", x.scan(), 6);
        touch(x, 5, 0, 5, 2, 5, 4, 7, 0, 7, 2, 7, 4);
        Check.same("cost", x.matchingCost(), 6);
        Check.same("the contacts are ignored", x.scan(), 0);
        for (int track = 0; track < 6; track++) {
            Check.same("missed", x.track(track, 3), 1);
        }
        Check.same("none would be down", x.downIfScanned(), 0);
        Check.same("six ups, and no downs", x.scan(), 6);
        dueCounts(x, 3, 6, 6);
        Check.same("all would be down", x.downIfScanned(), 63);
        Check.same("six downs", x.scan(), 6);
        due(x, 5, 700, 400, 0, 0);
        x.setRaw(7, 4, 0);
        x.setRaw(0, 5, 99);
        Check.same("the sixth cannot follow", x.match(5), TouchTracker.NONE);
        Check.same("the first contact is new", x.match(0), 1);
    }

    private static void lowestTrackIsGiven() {
        TouchTracker x = new TouchTracker();
        x.set(TouchTracker.GRACE, 0);
        touch(x, 0, 0, 0, 4, 4, 0, 4, 4);
        x.scan();
        touch(x, 0, 4, 4, 4);
        Check.same("two ups", x.scan(), 2);
        touch(x, 0, 0, 0, 4, 4, 4, 7, 0, 7, 2);
        x.scan();
        due(x, 0, 0, 0, 0, 0);
        due(x, 1, 0, 400, 2, 0);
        due(x, 2, 700, 0, 0, 0);
        due(x, 3, 400, 400, 2, 0);
        due(x, 4, 700, 200, 0, 0);
        dueUp(x, 5);
        dueCounts(x, 3, 7, 2);
    }

    private static void squaredDistances() {
        TouchTracker x = new TouchTracker();
        touch(x, 1, 1);
        Check.same("the track is up", x.squaredDistance(0, 0), TouchTracker.NONE);
        x.scan();
        touch(x, 1, 4, 5, 0);
        Check.same("along a row", x.squaredDistance(0, 0), 90000);
        Check.same("across", x.squaredDistance(0, 1), 160000 + 10000);
        Check.same("no such contact", x.squaredDistance(0, 2), TouchTracker.NONE);
        Check.same("no such contact by far", x.squaredDistance(0, Integer.MAX_VALUE), TouchTracker.NONE);
        Check.same("another track is up", x.squaredDistance(5, 0), TouchTracker.NONE);
        x.set(TouchTracker.GATE, 1);
        Check.same("the gate does not matter", x.squaredDistance(0, 0), 90000);
    }

    private static void queriesChangeNothing() {
        TouchTracker x = new TouchTracker();
        touch(x, 1, 1, 6, 4);
        x.scan();
        touch(x, 2, 1);
        x.scan();
        String before = Check.look(x);
        Check.same("after all queries", Check.look(x), before);
        due(x, 1, 600, 400, 0, 1);
        dueCounts(x, 2, 2, 0);
    }

    private static void refusals() {
        for (int track : new int[] {-1, 6, Integer.MIN_VALUE, Integer.MAX_VALUE}) {
            TouchTracker x = new TouchTracker();
            Check.failsOnIndex("isDown " + track, x, () -> x.isDown(track));
            TouchTracker y = new TouchTracker();
            Check.failsOnIndex("track " + track, y, () -> y.track(track, 0));
            TouchTracker z = new TouchTracker();
            Check.failsOnIndex("track and part " + track, z, () -> z.track(track, 4));
            TouchTracker u = new TouchTracker();
            Check.failsOnIndex("squaredDistance " + track, u, () -> u.squaredDistance(track, 0));
            TouchTracker v = new TouchTracker();
            Check.failsOnIndex("match " + track, v, () -> v.match(track));
        }
        for (int part : new int[] {-1, 4, Integer.MIN_VALUE, Integer.MAX_VALUE}) {
            TouchTracker x = new TouchTracker();
            Check.failsOnArgument("part " + part, x, () -> x.track(0, part));
        }
        TouchTracker x = new TouchTracker();
        Check.failsOnIndex("squaredDistance -1", x, () -> x.squaredDistance(0, -1));
    }
}
