import java.util.function.Consumer;

/** Section 7, STATE, UNDO, with promises 12 and 31: a test for each sentence with an edge. */
final class UndoEdgeTest {
    private interface Call extends Consumer<TouchTracker> {
    }

    private static final Call[] UNDOABLE = {
        x -> x.setRaw(2, 1, 222),
        x -> x.setRaw(7, 5, 0),
        x -> x.press(0, 0, 255),
        x -> x.press(7, 5, 1),
        TouchTracker::release,
        TouchTracker::calibrate,
        x -> x.set(TouchTracker.THRESHOLD, 100),
        x -> x.set(TouchTracker.PALM, 1),
        x -> x.set(TouchTracker.SHARP, 255),
        x -> x.set(TouchTracker.GATE, 1),
        x -> x.set(TouchTracker.GRACE, 0),
        TouchTracker::scan,
        x -> run(x, "s"),
        x -> run(x, "x;b;p33,99;s;s;x;s;s;s"),
    };
    private static final Call[] TEXT_CALLS = {
        x -> x.appendText('s'),
        x -> x.appendText(126),
        TouchTracker::clearText,
    };
    private static final Call[] QUERIES = {
        TouchTracker::errorPosition,
        x -> x.raw(7, 5),
        x -> x.signal(7, 5),
        x -> x.regionSize(7, 5),
        x -> x.regionKind(7, 5),
        x -> x.regions(2),
        x -> x.setting(4),
        TouchTracker::contacts,
        x -> x.contact(5, 3),
        x -> x.isDown(5),
        x -> x.track(5, 3),
        x -> x.squaredDistance(5, 5),
        x -> x.match(5),
        TouchTracker::matchingCost,
        TouchTracker::downIfScanned,
        TouchTracker::frames,
        TouchTracker::downs,
        TouchTracker::ups,
        TouchTracker::meanSignal,
        TouchTracker::savedStates,
        TouchTracker::textLength,
    };

    public static void main(String[] args) {
        eachCallIsUndone();
        callsThatChangeNothing();
        callsThatAreNotUndoable();
        olderStatesStay();
        upToSixStates();
        theOldestGoes();
        undoOfEachNumber();
        fullAgainAfterUndo();
        eachPartOfTheState();
        undoAndTheSameAgain();
        Check.end();
    }

    private static void run(TouchTracker x, String text) {
        Check.type(x, text);
        x.runText();
    }

    /** "saves the state as it was before the call": each call, with none to six states saved before. */
    private static void eachCallIsUndone() {
        for (Scene scene : Scene.values()) {
            String before = Check.lookAtState(scene.make());
            int saved = scene.make().savedStates();
            for (int call = 0; call < UNDOABLE.length; call++) {
                String what = "the call " + call + " in the scene " + scene;
                TouchTracker x = scene.make();
                UNDOABLE[call].accept(x);
                Check.same("saved by " + what, x.savedStates(), Math.min(6, saved + 1));
                Check.same("left by " + what, x.undo(), Math.min(5, saved));
                Check.same("after the undo of " + what, Check.lookAtState(x), before);
            }
        }
    }

    /** "It is saved even if the call changes nothing." */
    private static void callsThatChangeNothing() {
        Call[] calls = {
            x -> x.setRaw(0, 0, 0),
            x -> Check.same("release", x.release(), 0),
            x -> Check.same("calibrate", x.calibrate(), 0),
            x -> Check.same("set", x.set(TouchTracker.GATE, 250), 250),
            x -> run(x, "x;b"),
        };
        for (int call = 0; call < calls.length; call++) {
            TouchTracker x = new TouchTracker();
            String before = Check.lookAtState(x);
            calls[call].accept(x);
            Check.same("the call " + call + " changes nothing", Check.lookAtState(x), before);
            Check.same("saved by the call " + call, x.savedStates(), 1);
            Check.same("undo", x.undo(), 0);
        }
        TouchTracker y = new TouchTracker();
        Check.put(y, 255, 0, 1, 6, 7);
        Check.same("press of what is full", y.press(0, 0, 255), 255);
        Check.same("saved", y.savedStates(), 5);
    }

    /** What is not marked "Undoable" saves nothing, and leaves the state and the saved states as they are. */
    private static void callsThatAreNotUndoable() {
        for (Scene scene : new Scene[] {Scene.NEW, Scene.ONE, Scene.NEARLY_FULL, Scene.UNDONE}) {
            String before = Check.lookAtState(scene.make());
            int saved = scene.make().savedStates();
            for (Call call : TEXT_CALLS) {
                TouchTracker x = scene.make();
                call.accept(x);
                Check.same("the state after a text call in " + scene, Check.lookAtState(x), before);
                Check.same("saved after a text call in " + scene, x.savedStates(), saved);
            }
        }
        for (Scene scene : Scene.values()) {
            String before = Check.look(scene.make());
            for (int call = 0; call < QUERIES.length; call++) {
                TouchTracker x = scene.make();
                QUERIES[call].accept(x);
                Check.same("after the query " + call + " in " + scene, Check.look(x), before);
            }
        }
    }

    /** One state is saved by a call, and one goes: the others stay, and queries leave them. */
    private static void olderStatesStay() {
        for (int call = 0; call < UNDOABLE.length; call++) {
            for (int undone = 1; undone <= 6; undone++) {
                TouchTracker x = Scene.FULL.make();
                UNDOABLE[call].accept(x);
                for (Call query : QUERIES) {
                    query.accept(x);
                }
                TouchTracker twin = Scene.FULL.make();
                for (int i = 0; i < undone; i++) {
                    Check.same("undo", x.undo(), 5 - i);
                    if (i > 0) {
                        twin.undo();
                    }
                }
                Check.same("the undo " + undone + " after the call " + call, Check.lookAtState(x),
                        Check.lookAtState(twin));
            }
        }
    }

    /** "At most 6 states are saved" */
    private static void upToSixStates() {
        TouchTracker x = new TouchTracker();
        for (int number = 0; number <= 20; number++) {
            Check.same("saved", x.savedStates(), Math.min(number, 6));
            x.setRaw(number % 8, number % 6, 50 + number);
        }
    }

    /** "when a seventh state is saved, the oldest saved state is discarded." */
    private static void theOldestGoes() {
        for (int calls = 0; calls <= 20; calls++) {
            TouchTracker x = new TouchTracker();
            for (int value = 1; value <= calls; value++) {
                x.setRaw(0, 0, value);
            }
            int saved = Math.min(calls, 6);
            for (int undone = 1; undone <= saved; undone++) {
                Check.same("undo " + undone + " of " + calls, x.undo(), saved - undone);
                Check.same("raw after it", x.raw(0, 0), calls - undone);
            }
            Check.failsOnState("an undo more", x, () -> x.undo());
            Check.same("raw stands", x.raw(0, 0), Math.max(0, calls - 6));
        }
    }

    /** "Restores the state that was saved last, and removes it"; "Returns the number of saved states that remain." */
    private static void undoOfEachNumber() {
        Scene scene = Scene.FULL;
        for (int number = 1; number <= 6; number++) {
            TouchTracker x = scene.make();
            for (int undone = 1; undone <= number; undone++) {
                Check.same("undo " + undone, x.undo(), 6 - undone);
                Check.same("saved", x.savedStates(), 6 - undone);
            }
            String before = Check.lookAtState(x);
            x.setRaw(7, 5, 254);
            x.undo();
            Check.same("a new call after " + number + " undos", Check.lookAtState(x), before);
        }
    }

    /** States are saved in the places of those that undo removed. */
    private static void fullAgainAfterUndo() {
        TouchTracker x = new TouchTracker();
        for (int value = 1; value <= 8; value++) {
            x.setRaw(0, 0, value);
        }
        x.undo();
        x.undo();
        x.undo();
        for (int value = 11; value <= 14; value++) {
            x.setRaw(0, 0, value);
        }
        int[] due = {13, 12, 11, 5, 4, 3};
        for (int undone = 0; undone < 6; undone++) {
            Check.same("undo", x.undo(), 5 - undone);
            Check.same("raw", x.raw(0, 0), due[undone]);
        }
    }

    /** "The state consists of the raw values, the baselines, the settings, the tracks and all counts." */
    private static void eachPartOfTheState() {
        TouchTracker x = new TouchTracker();
        for (int cell = 0; cell < 48; cell++) {
            Check.put(x, 100 + cell, cell);
        }
        x.calibrate();
        for (int cell = 0; cell < 48; cell++) {
            Check.put(x, 200 - cell, cell);
        }
        run(x, "x;b");
        x.undo();
        for (int cell = 0; cell < 48; cell++) {
            Check.same("the raw value of " + cell, x.raw(cell / 6, cell % 6), 200 - cell);
            Check.same("the signal of " + cell, x.signal(cell / 6, cell % 6), Math.max(0, 100 - 2 * cell));
        }
        int[] values = {99, 47, 254, 999, 4};
        for (int setting = 0; setting < 5; setting++) {
            int before = x.set(setting, values[setting]);
            x.undo();
            Check.same("the setting " + setting, x.setting(setting), before);
        }
        eachPartOfTheTracks();
    }

    private static void eachPartOfTheTracks() {
        TouchTracker x = new TouchTracker();
        Check.put(x, 50, 7, 10, 40);
        x.scan();
        x.scan();
        Check.touch(x, 14, 10);
        x.scan();
        int[][] due = {{200, 200, 2, 0}, {100, 400, 2, 0}, {600, 400, 1, 1}};
        dueTracks("before", x, due);
        // One goes on, one misses, one goes up, and one goes down.
        Check.touch(x, 21, 47);
        x.scan();
        x.undo();
        dueTracks("after a frame that is undone", x, due);
        run(x, "s;s;s;x;s;s;s;p00,99;s");
        x.undo();
        dueTracks("after a text that is undone", x, due);
    }

    private static void dueTracks(String what, TouchTracker x, int[][] due) {
        for (int track = 0; track < 6; track++) {
            for (int part = 0; part < 4; part++) {
                Check.same(what + ": part " + part + " of " + track, x.track(track, part),
                        track < due.length ? due[track][part] : TouchTracker.NONE);
            }
        }
        Check.same(what + ": frames", x.frames(), 3);
        Check.same(what + ": downs", x.downs(), 3);
        Check.same(what + ": ups", x.ups(), 0);
    }

    /** A call that is undone and made again does what it did. */
    private static void undoAndTheSameAgain() {
        for (int call = 0; call < UNDOABLE.length; call++) {
            TouchTracker x = Scene.FULL.make();
            UNDOABLE[call].accept(x);
            TouchTracker y = Scene.FULL.make();
            UNDOABLE[call].accept(y);
            y.undo();
            UNDOABLE[call].accept(y);
            Check.same("the call " + call + " again", Check.lookAtState(y), Check.lookAtState(x));
        }
    }
}
