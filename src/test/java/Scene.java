/** States that tests start from. Each call of make gives a new tracker in the same state: a twin. */
enum Scene {
    /** Nothing has been done. */
    NEW {
        @Override
        void build(TouchTracker x) {
        }
    },
    /** One state is saved, and the text is one command. */
    ONE {
        @Override
        void build(TouchTracker x) {
            x.press(6, 4, 120);
            Check.type(x, "s");
        }
    },
    /** Five states are saved, and the text is one character short of a full buffer. */
    NEARLY_FULL {
        @Override
        void build(TouchTracker x) {
            useAll(x);
            x.undo();
            Check.type(x, "s;".repeat(39) + "s");
        }
    },
    /** Six states are saved, six tracks are down, and the text is valid and fills the buffer. */
    FULL {
        @Override
        void build(TouchTracker x) {
            useAll(x);
            Check.type(x, "s;b;x;".repeat(12) + "s;p21,77");
        }
    },
    /** As full, but the text ends too early. */
    FULL_WITHOUT_END {
        @Override
        void build(TouchTracker x) {
            useAll(x);
            Check.type(x, "x;".repeat(40));
        }
    },
    /** Much has been done, and all that was saved is undone. */
    UNDONE {
        @Override
        void build(TouchTracker x) {
            useAll(x);
            for (int left = 5; left >= 0; left--) {
                x.undo();
            }
            Check.type(x, "p00,256");
        }
    };

    abstract void build(TouchTracker x);

    TouchTracker make() {
        TouchTracker tracker = new TouchTracker();
        build(tracker);
        return tracker;
    }

    /** Changes all that the state consists of, with six tracks down, and other values in each saved state. */
    private static void useAll(TouchTracker x) {
        x.set(TouchTracker.THRESHOLD, 15);
        x.set(TouchTracker.PALM, 9);
        x.set(TouchTracker.SHARP, 25);
        Check.put(x, 30, 1, 22, 40);
        x.calibrate();
        Check.put(x, 90, 0, 4, 24);
        x.scan();
        Check.put(x, 90, 14, 28, 38);
        x.scan();
        x.setRaw(4, 0, 0);
        x.press(0, 3, 60);
        x.set(TouchTracker.GRACE, 4);
        x.scan();
        x.calibrate();
        Check.put(x, 200, 6, 33);
        x.scan();
    }
}
