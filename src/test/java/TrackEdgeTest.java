/** Section 4, TRACKS, with promises 21 to 25: a test for each sentence with an edge. */
final class TrackEdgeTest {
    private static final int[] SIX = {0, 2, 4, 12, 14, 16};

    public static void main(String[] args) {
        tracksZeroToFive();
        partsOfATrack();
        squaredDistances();
        distancesThatAreNone();
        gate();
        gateAtItsEnds();
        sixTracksAndSixContacts();
        oneContactForSixTracks();
        sixContactsForOneTrack();
        costOfNone();
        costWithoutTracks();
        noneCountsAsSix();
        lowerContactFirst();
        ascendingOrderOfTheTracks();
        leastCostBeforeOrder();
        Check.end();
    }

    /** A finger with the mass 100; fewer than 20 hundredths move it down and to the right. */
    private static void finger(TouchTracker x, int cell, int down, int right) {
        x.release();
        Check.put(x, 100 - down - right, cell);
        Check.put(x, down, cell + 6);
        Check.put(x, right, cell + 1);
    }

    private static void dueMatches(String what, TouchTracker x, int... contacts) {
        for (int track = 0; track < 6; track++) {
            int due = track < contacts.length ? contacts[track] : TouchTracker.NONE;
            Check.same(what + ": match of " + track, x.match(track), due);
        }
    }

    /** "There are six tracks, numbered 0 to 5. A track is up (at first) or down." */
    private static void tracksZeroToFive() {
        for (int number = 0; number <= 6; number++) {
            TouchTracker x = new TouchTracker();
            for (int i = 0; i < number; i++) {
                Check.put(x, 50, SIX[i]);
            }
            Check.same("events", x.scan(), number);
            for (int track = 0; track < 6; track++) {
                Check.yes(track + " of " + number, x.isDown(track) == track < number);
                Check.same("match of " + track, x.match(track), track < number ? track : TouchTracker.NONE);
            }
        }
    }

    /** "a row position, a column position, an age and a number of missed frames"; "NONE if the track is up." */
    private static void partsOfATrack() {
        TouchTracker x = new TouchTracker();
        x.set(TouchTracker.GRACE, 5);
        finger(x, 34, 7, 3);
        x.scan();
        x.scan();
        x.scan();
        x.release();
        x.scan();
        int[] due = {507, 403, 2, 1};
        for (int part = 0; part < 4; part++) {
            Check.same("part " + part, x.track(0, part), due[part]);
            Check.same("part " + part + " of a track that is up", x.track(1, part), TouchTracker.NONE);
            Check.same("part " + part + " of the last track", x.track(5, part), TouchTracker.NONE);
        }
        TouchTracker y = new TouchTracker();
        Check.put(y, 50, 0);
        y.scan();
        for (int part = 0; part < 4; part++) {
            Check.same("all parts may be 0", y.track(0, part), 0);
        }
        y.set(TouchTracker.GRACE, 0);
        y.release();
        y.scan();
        for (int part = 0; part < 4; part++) {
            Check.same("gone up", y.track(0, part), TouchTracker.NONE);
        }
    }

    /** "the sum of the squares of the differences of their row positions and of their column positions" */
    private static void squaredDistances() {
        TouchTracker x = new TouchTracker();
        Check.put(x, 50, 0);
        x.scan();
        Check.same("none", x.squaredDistance(0, 0), 0);
        Check.touch(x, 47);
        Check.same("the greatest", x.squaredDistance(0, 0), 700 * 700 + 500 * 500);
        x.set(TouchTracker.GRACE, 5);
        x.scan();
        x.scan();
        Check.touch(x, 0);
        Check.same("back", x.squaredDistance(1, 0), 700 * 700 + 500 * 500);
        TouchTracker y = new TouchTracker();
        finger(y, 21, 1, 0);
        y.scan();
        int[][] due = {{0, 0, 1}, {1, 0, 0}, {2, 0, 1}, {1, 1, 1}, {0, 3, 10}, {19, 19, 324 + 361}};
        for (int[] move : due) {
            finger(y, 21, move[0], move[1]);
            Check.same("moved by " + move[0] + " and " + move[1], y.squaredDistance(0, 0), move[2]);
        }
    }

    /** "NONE if the track is up or if there is no such contact." */
    private static void distancesThatAreNone() {
        TouchTracker x = new TouchTracker();
        Check.put(x, 50, SIX);
        Check.same("all are up", x.squaredDistance(0, 0), TouchTracker.NONE);
        Check.same("the last is up", x.squaredDistance(5, 5), TouchTracker.NONE);
        x.scan();
        for (int track = 0; track < 6; track++) {
            Check.same("its own contact", x.squaredDistance(track, track), 0);
            for (int contact : new int[] {6, 7, 48, Integer.MAX_VALUE}) {
                Check.same("no seventh contact", x.squaredDistance(track, contact), TouchTracker.NONE);
            }
        }
        x.release();
        for (int track = 0; track < 6; track++) {
            Check.same("no contact at all", x.squaredDistance(track, 0), TouchTracker.NONE);
        }
        Check.put(x, 50, 0);
        Check.same("one contact", x.squaredDistance(5, 0), 200 * 200 + 400 * 400);
        Check.same("no second contact", x.squaredDistance(5, 1), TouchTracker.NONE);
    }

    /** "They can be matched if it is at most GATE * GATE." */
    private static void gate() {
        int[][] due = {{8, 4, 80}, {4, 8, 80}, {9, 0, 81}, {0, 9, 81}, {9, 1, 82}, {1, 9, 82}};
        for (int[] move : due) {
            TouchTracker x = new TouchTracker();
            finger(x, 20, 0, 0);
            x.scan();
            finger(x, 20, move[0], move[1]);
            x.set(TouchTracker.GATE, 9);
            boolean can = move[2] <= 81;
            Check.same("the squared distance", x.squaredDistance(0, 0), move[2]);
            Check.same("match at " + move[2], x.match(0), can ? 0 : TouchTracker.NONE);
            Check.same("cost at " + move[2], x.matchingCost(), can ? move[2] : 81);
            Check.same("set at " + move[2], x.downIfScanned(), can ? 1 : 3);
            x.set(TouchTracker.GATE, 8);
            Check.same("match with the gate 8", x.match(0), TouchTracker.NONE);
            x.set(TouchTracker.GATE, 10);
            Check.same("match with the gate 10", x.match(0), 0);
        }
    }

    /** The least and the greatest GATE; over the whole panel. */
    private static void gateAtItsEnds() {
        TouchTracker x = new TouchTracker();
        x.set(TouchTracker.GATE, 1);
        finger(x, 20, 0, 0);
        x.scan();
        Check.same("no move", x.match(0), 0);
        finger(x, 20, 1, 0);
        Check.same("one hundredth", x.match(0), 0);
        Check.same("its cost", x.matchingCost(), 1);
        finger(x, 20, 1, 1);
        Check.same("one each way", x.match(0), TouchTracker.NONE);
        Check.same("its cost", x.matchingCost(), 1);
        TouchTracker y = new TouchTracker();
        Check.put(y, 50, 47);
        y.scan();
        Check.touch(y, 0);
        int[][] due = {{860, -1, 739600}, {861, 0, 740000}, {1000, 0, 740000}};
        for (int[] row : due) {
            y.set(TouchTracker.GATE, row[0]);
            Check.same("match with the gate " + row[0], y.match(0), row[1]);
            Check.same("cost with the gate " + row[0], y.matchingCost(), row[2]);
        }
    }

    /** "A matching assigns to each track that is down a contact": as many as there may be, in another order. */
    private static void sixTracksAndSixContacts() {
        TouchTracker x = new TouchTracker();
        for (int track = 0; track < 6; track++) {
            Check.put(x, 50, SIX[5 - track]);
            Check.same("one event", x.scan(), 1);
        }
        dueMatches("backwards", x, 5, 4, 3, 2, 1, 0);
        Check.same("cost", x.matchingCost(), 0);
        x.release();
        for (int cell : SIX) {
            Check.put(x, 50, cell + 6);
        }
        dueMatches("backwards, a row below", x, 5, 4, 3, 2, 1, 0);
        Check.same("cost", x.matchingCost(), 6 * 100 * 100);
        Check.same("no events", x.scan(), 0);
        for (int track = 0; track < 6; track++) {
            Check.same("row of " + track, x.track(track, 0), SIX[5 - track] / 6 * 100 + 100);
            Check.same("age of " + track, x.track(track, 2), 6 - track);
        }
    }

    /** "no contact is assigned to two tracks." */
    private static void oneContactForSixTracks() {
        for (int near = 0; near < 6; near++) {
            TouchTracker x = new TouchTracker();
            x.set(TouchTracker.GATE, 1000);
            Check.put(x, 50, SIX);
            x.scan();
            Check.touch(x, SIX[near] + 6);
            for (int track = 0; track < 6; track++) {
                Check.same("match of " + track, x.match(track), track == near ? 0 : TouchTracker.NONE);
            }
            Check.same("cost", x.matchingCost(), 100 * 100 + 5 * 1000 * 1000);
        }
    }

    /** One track, and its contact is any of six. */
    private static void sixContactsForOneTrack() {
        for (int near = 0; near < 6; near++) {
            TouchTracker x = new TouchTracker();
            x.set(TouchTracker.GATE, 1000);
            Check.put(x, 50, SIX[near]);
            x.scan();
            Check.put(x, 50, SIX);
            dueMatches("the nearest of six", x, near);
            Check.same("cost", x.matchingCost(), 0);
            Check.same("all the others go down", x.scan(), 5);
        }
    }

    /** "plus GATE * GATE for each track that is down and is assigned none": from one track to six. */
    private static void costOfNone() {
        for (int number = 0; number <= 6; number++) {
            TouchTracker x = new TouchTracker();
            for (int i = 0; i < number; i++) {
                Check.put(x, 50, SIX[i]);
            }
            x.scan();
            x.release();
            for (int gate : new int[] {1, 2, 250, 999, 1000}) {
                x.set(TouchTracker.GATE, gate);
                Check.same("cost of " + number + " with the gate " + gate, x.matchingCost(), number * gate * gate);
            }
            dueMatches("no contacts", x);
        }
    }

    /** "0 if no track is down.", whatever contacts there are. */
    private static void costWithoutTracks() {
        TouchTracker x = new TouchTracker();
        Check.same("nothing there", x.matchingCost(), 0);
        Check.put(x, 50, SIX);
        Check.same("six contacts", x.matchingCost(), 0);
        dueMatches("no tracks", x);
        x.scan();
        x.release();
        x.set(TouchTracker.GRACE, 0);
        x.scan();
        Check.same("all up again", x.matchingCost(), 0);
    }

    /** "none counting as 6": a contact that costs as much as none comes first, the contact 5 too. */
    private static void noneCountsAsSix() {
        TouchTracker x = new TouchTracker();
        Check.put(x, 50, 40);
        x.scan();
        Check.touch(x, 0, 2, 4, 12, 14, 28);
        x.set(TouchTracker.GATE, 199);
        dueMatches("beyond the gate", x);
        x.set(TouchTracker.GATE, 200);
        dueMatches("as dear as none", x, 5);
        Check.same("cost", x.matchingCost(), 200 * 200);
        Check.touch(x, 28);
        dueMatches("the contact 0 as dear as none", x, 0);
    }

    /** "the lower number being first": of two to four contacts that cost the same. */
    private static void lowerContactFirst() {
        int[] asNear = {33, 23, 19, 9};
        TouchTracker x = new TouchTracker();
        Check.put(x, 50, 21);
        x.scan();
        x.release();
        for (int number = 1; number <= 4; number++) {
            Check.put(x, 50, asNear[number - 1]);
            Check.same("contacts", x.contacts(), number);
            dueMatches("of " + number + " as near", x, 0);
            Check.same("cost", x.matchingCost(), 200 * 200);
        }
    }

    /** "compared one by one, in ascending order of the tracks". */
    private static void ascendingOrderOfTheTracks() {
        TouchTracker x = new TouchTracker();
        Check.put(x, 50, 0, 2, 4);
        x.scan();
        Check.touch(x, 1, 3);
        dueMatches("three tracks, two contacts", x, 0, 1, -1);
        Check.same("cost", x.matchingCost(), 2 * 100 * 100 + 250 * 250);
        Check.touch(x, 1);
        dueMatches("one contact for the first or the second", x, 0, -1, -1);
        Check.touch(x, 3);
        dueMatches("one contact for the second or the third", x, -1, 0, -1);
        Check.touch(x, 0, 3);
        dueMatches("the first stands", x, 0, 1, -1);
        // Tracks that do not stand in the order of their places: the track 0 is the lower one.
        TouchTracker y = new TouchTracker();
        Check.put(y, 50, 12);
        y.scan();
        Check.put(y, 50, 0);
        y.scan();
        Check.touch(y, 6);
        dueMatches("the track 0 comes first", y, 0, -1);
        Check.touch(y, 0, 12);
        dueMatches("each where it stands", y, 1, 0);
        y.set(TouchTracker.GATE, 1000);
        Check.touch(y, 7, 9);
        dueMatches("a tie of pairs", y, 0, 1);
    }

    /** "The best matching is the one with the least cost.": by as little as 1, before the order counts. */
    private static void leastCostBeforeOrder() {
        TouchTracker x = new TouchTracker();
        Check.put(x, 50, 8);
        x.scan();
        x.release();
        Check.put(x, 100, 6);
        Check.put(x, 99, 10);
        Check.put(x, 1, 9);
        Check.same("the first is farther", x.squaredDistance(0, 0), 200 * 200);
        Check.same("the second is nearer", x.squaredDistance(0, 1), 199 * 199);
        dueMatches("the nearer one", x, 1);
        TouchTracker y = new TouchTracker();
        Check.put(y, 50, 0, 2);
        y.scan();
        Check.touch(y, 2, 4);
        y.set(TouchTracker.GATE, 282);
        dueMatches("none for the first is cheaper by 476", y, -1, 0);
        y.set(TouchTracker.GATE, 283);
        dueMatches("none for the first is dearer by 89", y, 0, 1);
    }
}
