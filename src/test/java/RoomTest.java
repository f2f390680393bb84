import java.lang.management.ManagementFactory;

/** The calls of a run make no objects: all room is taken by the constructor. */
final class RoomTest {
    private static final long ROOM_OF_A_CALL = 64;

    public static void main(String[] args) {
        work(new TouchTracker());
        TouchTracker tracker = new TouchTracker();
        long before = taken();
        int calls = work(tracker);
        long bytes = taken() - before;
        Check.yes(calls + " calls took " + bytes + " bytes", bytes <= calls * ROOM_OF_A_CALL);
        Check.end();
    }

    private static long taken() {
        return ((com.sun.management.ThreadMXBean) ManagementFactory.getThreadMXBean()).getCurrentThreadAllocatedBytes();
    }

    private static int work(TouchTracker tracker) {
        tracker.appendText('s');
        for (int i = 0; i < 39; i++) {
            tracker.appendText(';');
            tracker.appendText('s');
        }
        for (int i = 0; i < 30; i++) {
            tracker.press(i % 8, i % 6, 90);
            tracker.runText();
            tracker.errorPosition();
            tracker.calibrate();
            tracker.press((i + 3) % 8, (i + 4) % 6, 90);
            tracker.scan();
            tracker.match(i % 6);
            tracker.matchingCost();
            tracker.downIfScanned();
            tracker.contact(0, 0);
            tracker.regions(0);
            tracker.undo();
        }
        return 80 + 30 * 12;
    }
}
