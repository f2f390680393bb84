/** Section 5, FRAMES, with promises 7 and 26 to 29: a test for each sentence with an edge. */
final class FrameEdgeTest {
    private static final int[] SIX = {0, 2, 4, 12, 14, 16};
    private static final int[] OTHER_SIX = {30, 32, 34, 42, 44, 46};

    public static void main(String[] args) {
        computedInTheFrame();
        emptyFrames();
        assigned();
        missedUpToGrace();
        missedFramesEndWithAContact();
        graceThatChanges();
        contactsAndTracksOfEachNumber();
        eachSetOfTracks();
        upBeforeTheFrame();
        downForTheSecondTime();
        upsAndDownsOfOneFrame();
        setOfTracksChangesNothing();
        settingsOfTheFrame();
        Check.end();
    }

    private static void dueCounts(String what, TouchTracker x, int frames, int downs, int ups) {
        Check.same(what + ": frames", x.frames(), frames);
        Check.same(what + ": downs", x.downs(), downs);
        Check.same(what + ": ups", x.ups(), ups);
    }

    private static TouchTracker sixDown() {
        TouchTracker x = new TouchTracker();
        Check.put(x, 50, SIX);
        Check.same("six go down", x.scan(), 6);
        return x;
    }

    /** "a. The contacts and the best matching are computed.": anew, if no query comes between the frames, too. */
    private static void computedInTheFrame() {
        int[] palm = {0, 1, 2, 3, 4, 5, 6, 7, 8, 9, 10, 11, 12};
        TouchTracker x = new TouchTracker();
        x.set(TouchTracker.GRACE, 0);
        Check.put(x, 50, palm);
        Check.same("a palm", x.scan(), 0);
        Check.put(x, 0, 12);
        Check.same("a finger", x.scan(), 1);
        Check.put(x, 29, palm);
        Check.same("a palm again", x.scan(), 1);
        Check.touch(x, 47);
        Check.same("a finger", x.scan(), 1);
        Check.put(x, 29, 47);
        Check.same("water", x.scan(), 1);
        Check.put(x, 30, 47);
        Check.same("a finger", x.scan(), 1);
        x.set(TouchTracker.THRESHOLD, 31);
        Check.same("not touched", x.scan(), 1);
        x.set(TouchTracker.THRESHOLD, 30);
        Check.same("touched", x.scan(), 1);
        x.release();
        Check.put(x, 100, 0);
        x.set(TouchTracker.GATE, 860);
        Check.same("another finger, one that cannot be matched", x.scan(), 2);
        Check.put(x, 0, 0);
        Check.put(x, 100, 47);
        x.set(TouchTracker.GATE, 861);
        Check.same("one that can", x.scan(), 0);
        dueCounts("ten frames", x, 10, 5, 4);
    }

    /** "The frames are counted.", those in which nothing is there too. */
    private static void emptyFrames() {
        TouchTracker x = new TouchTracker();
        dueCounts("before the first frame", x, 0, 0, 0);
        for (int frame = 1; frame <= 100; frame++) {
            Check.same("events of nothing", x.scan(), 0);
            dueCounts("nothing", x, frame, 0, 0);
        }
    }

    /** "Each track that is assigned a contact gets the positions .., its age increases by 1 .." */
    private static void assigned() {
        TouchTracker x = new TouchTracker();
        int[] path = {0, 7, 14, 21, 28, 35, 41, 47, 40, 33};
        for (int frame = 0; frame < path.length; frame++) {
            Check.touch(x, path[frame]);
            Check.same("events", x.scan(), frame == 0 ? 1 : 0);
            Check.same("row", x.track(0, 0), path[frame] / 6 * 100);
            Check.same("column", x.track(0, 1), path[frame] % 6 * 100);
            Check.same("age", x.track(0, 2), frame);
            Check.same("missed", x.track(0, 3), 0);
        }
        dueCounts("one finger", x, path.length, 1, 0);
    }

    /** "If it is greater than GRACE then, the track is up." */
    private static void missedUpToGrace() {
        for (int grace = 0; grace <= 5; grace++) {
            TouchTracker x = new TouchTracker();
            x.set(TouchTracker.GRACE, grace);
            Check.put(x, 50, 27);
            x.scan();
            x.release();
            for (int missed = 1; missed <= grace; missed++) {
                Check.same("would stay", x.downIfScanned(), 1);
                Check.same("no event", x.scan(), 0);
                int[] due = {400, 300, 0, missed};
                for (int part = 0; part < 4; part++) {
                    Check.same("part " + part, x.track(0, part), due[part]);
                }
            }
            Check.same("would go up", x.downIfScanned(), 0);
            Check.same("goes up", x.scan(), 1);
            Check.yes("is up", !x.isDown(0));
            dueCounts("grace " + grace, x, grace + 2, 1, 1);
            Check.same("goes up once", x.scan(), 0);
            dueCounts("grace " + grace, x, grace + 3, 1, 1);
        }
    }

    /** "its number of missed frames becomes 0": after the last frame that may be missed. */
    private static void missedFramesEndWithAContact() {
        for (int grace = 1; grace <= 5; grace++) {
            TouchTracker x = new TouchTracker();
            x.set(TouchTracker.GRACE, grace);
            for (int round = 0; round < 3; round++) {
                Check.touch(x, 27);
                x.scan();
                Check.same("missed", x.track(0, 3), 0);
                Check.same("age", x.track(0, 2), round);
                x.release();
                for (int missed = 1; missed <= grace; missed++) {
                    x.scan();
                    Check.same("missed", x.track(0, 3), missed);
                    Check.same("the age stands", x.track(0, 2), round);
                }
            }
            dueCounts("grace " + grace, x, 3 * (grace + 1), 1, 0);
        }
    }

    /** "greater than GRACE then": as GRACE is in this frame. */
    private static void graceThatChanges() {
        TouchTracker x = new TouchTracker();
        x.set(TouchTracker.GRACE, 5);
        Check.put(x, 50, 27);
        x.scan();
        x.release();
        x.scan();
        x.scan();
        x.set(TouchTracker.GRACE, 2);
        Check.yes("a change of GRACE alone does nothing", x.isDown(0));
        Check.same("the third is one too many", x.downIfScanned(), 0);
        x.set(TouchTracker.GRACE, 3);
        Check.same("the third may be missed", x.downIfScanned(), 1);
        x.scan();
        x.set(TouchTracker.GRACE, 0);
        Check.yes("a change of GRACE alone does nothing", x.isDown(0));
        Check.same("missed", x.track(0, 3), 3);
        Check.same("goes up", x.scan(), 1);
    }

    /** "given to the track with the lowest number ..", "If there is no such track, the contact is ignored." */
    private static void contactsAndTracksOfEachNumber() {
        for (int down = 0; down <= 6; down++) {
            for (int more = 0; more <= 6; more++) {
                TouchTracker x = new TouchTracker();
                x.set(TouchTracker.GATE, 1);
                for (int i = 0; i < down; i++) {
                    Check.put(x, 50, SIX[i]);
                }
                x.scan();
                x.release();
                for (int i = 0; i < more; i++) {
                    Check.put(x, 50, OTHER_SIX[i]);
                }
                int given = Math.min(more, 6 - down);
                Check.same("set of " + down + " and " + more, x.downIfScanned(), (1 << (down + given)) - 1);
                Check.same("events of " + down + " and " + more, x.scan(), given);
                dueCounts(down + " and " + more, x, 2, down + given, 0);
                for (int track = 0; track < 6; track++) {
                    dueOldOrNew(x, track, down, given);
                }
            }
        }
    }

    private static void dueOldOrNew(TouchTracker x, int track, int down, int given) {
        boolean old = track < down;
        boolean is = track < down + given;
        int cell = old ? SIX[track] : is ? OTHER_SIX[track - down] : 0;
        Check.same("row of " + track, x.track(track, 0), is ? cell / 6 * 100 : TouchTracker.NONE);
        Check.same("column of " + track, x.track(track, 1), is ? cell % 6 * 100 : TouchTracker.NONE);
        Check.same("age of " + track, x.track(track, 2), is ? 0 : TouchTracker.NONE);
        Check.same("missed of " + track, x.track(track, 3), old ? 1 : is ? 0 : TouchTracker.NONE);
    }

    /** "the set of the tracks that would be down after the frame; bit t is for the track t": each set there is. */
    private static void eachSetOfTracks() {
        for (int set = 0; set < 64; set++) {
            TouchTracker x = sixDown();
            x.set(TouchTracker.GRACE, 0);
            for (int track = 0; track < 6; track++) {
                if ((set & (1 << track)) == 0) {
                    Check.put(x, 0, SIX[track]);
                }
            }
            int up = 6 - Integer.bitCount(set);
            Check.same("set", x.downIfScanned(), set);
            Check.same("events", x.scan(), up);
            dueCounts("set " + set, x, 2, 6, up);
            for (int track = 0; track < 6; track++) {
                Check.yes("track " + track + " of " + set, x.isDown(track) == ((set & (1 << track)) != 0));
            }
            lowestThatAreUp(x, set);
        }
    }

    /** Up to two contacts more: the first is given to the lowest track that is up, the second to the next one. */
    private static void lowestThatAreUp(TouchTracker x, int set) {
        int[] cells = {41, 44};
        int more = Math.min(2, 6 - Integer.bitCount(set));
        x.set(TouchTracker.GATE, 1);
        for (int i = 0; i < more; i++) {
            Check.put(x, 50, cells[i]);
        }
        int first = Integer.lowestOneBit(63 - set);
        int second = Integer.lowestOneBit(63 - set - first);
        Check.same("set with " + more + " more", x.downIfScanned(), set | first | second);
        Check.same("events", x.scan(), more);
        int track = Integer.numberOfTrailingZeros(first);
        for (int i = 0; i < more; i++) {
            Check.same("row of " + track, x.track(track, 0), cells[i] / 6 * 100);
            Check.same("column of " + track, x.track(track, 1), cells[i] % 6 * 100);
            track = Integer.numberOfTrailingZeros(second);
        }
    }

    /** "that was up before the frame": a track that goes up in a frame waits for the next one. */
    private static void upBeforeTheFrame() {
        TouchTracker x = sixDown();
        x.set(TouchTracker.GRACE, 0);
        x.set(TouchTracker.GATE, 1);
        Check.touch(x, OTHER_SIX);
        Check.same("none is down then", x.downIfScanned(), 0);
        Check.same("six go up", x.scan(), 6);
        dueCounts("six up", x, 2, 6, 6);
        Check.same("all are down then", x.downIfScanned(), 63);
        Check.same("six go down", x.scan(), 6);
        dueCounts("six down", x, 3, 12, 6);
    }

    /** "This track is down, has the positions of the contact, the age 0 and no missed frames." */
    private static void downForTheSecondTime() {
        TouchTracker x = new TouchTracker();
        x.set(TouchTracker.GRACE, 3);
        Check.put(x, 50, 27);
        for (int frame = 0; frame < 6; frame++) {
            x.scan();
        }
        x.release();
        for (int frame = 0; frame < 4; frame++) {
            x.scan();
        }
        Check.yes("it is up", !x.isDown(0));
        Check.put(x, 50, 41);
        Check.same("it goes down", x.scan(), 1);
        int[] due = {600, 500, 0, 0};
        for (int part = 0; part < 4; part++) {
            Check.same("part " + part, x.track(0, part), due[part]);
        }
        x.release();
        for (int missed = 1; missed <= 3; missed++) {
            Check.same("no event", x.scan(), 0);
            Check.same("missed", x.track(0, 3), missed);
        }
        Check.same("it goes up", x.scan(), 1);
        dueCounts("down and up twice", x, 15, 2, 2);
    }

    /** "Each track that goes up in step c and each track that goes down in step d is an event." */
    private static void upsAndDownsOfOneFrame() {
        for (int old = 0; old <= 6; old++) {
            TouchTracker x = new TouchTracker();
            x.set(TouchTracker.GRACE, 0);
            x.set(TouchTracker.GATE, 1);
            for (int i = 0; i < old; i++) {
                Check.put(x, 50, SIX[i]);
            }
            x.scan();
            Check.touch(x, OTHER_SIX);
            Check.same("ups and downs", x.scan(), 6);
            dueCounts("of " + old, x, 2, 6, old);
            Check.same("set", x.downIfScanned() & ((1 << old) - 1), (1 << old) - 1);
        }
    }

    /** downIfScanned is a query: "queries change nothing". */
    private static void setOfTracksChangesNothing() {
        for (Scene scene : Scene.values()) {
            TouchTracker x = scene.make();
            for (int i = 0; i < 10; i++) {
                x.downIfScanned();
                x.match(i % 6);
                x.matchingCost();
            }
            Check.same("after the queries, " + scene, Check.look(x), Check.look(scene.make()));
        }
    }

    /** "The following is computed from the signals and the settings as they are": at the moment of the frame. */
    private static void settingsOfTheFrame() {
        TouchTracker x = new TouchTracker();
        Check.put(x, 50, 0);
        x.scan();
        x.set(TouchTracker.THRESHOLD, 51);
        Check.same("no contact", x.match(0), TouchTracker.NONE);
        x.set(TouchTracker.THRESHOLD, 50);
        Check.same("a contact", x.match(0), 0);
        x.set(TouchTracker.SHARP, 51);
        Check.same("water", x.match(0), TouchTracker.NONE);
        x.set(TouchTracker.SHARP, 50);
        Check.same("a finger", x.match(0), 0);
        x.calibrate();
        Check.same("no signal", x.match(0), TouchTracker.NONE);
        Check.same("missed", x.scan(), 0);
        Check.same("missed", x.track(0, 3), 1);
    }
}
