/** What the tests share: each test is a class with a main method that ends with exit code 1 if an answer is wrong. */
final class Check {
    private static final int ROWS = 8;
    private static final int COLUMNS = 6;
    private static int wrong;

    private Check() {
    }

    static void same(String what, long got, long want) {
        if (got != want) {
            report(what + " answered " + got + ", due is " + want);
        }
    }

    static void same(String what, float got, float want) {
        if (got != want) {
            report(what + " answered " + got + ", due is " + want);
        }
    }

    static void same(String what, String got, String want) {
        if (!got.equals(want)) {
            report(what + " answered\n" + got + "\ndue is\n" + want);
        }
    }

    static void yes(String what, boolean got) {
        if (!got) {
            report(what + " does not hold");
        }
    }

    /** The call must throw just this exception, and change nothing that can be seen of the tracker. */
    static void fails(String what, TouchTracker tracker, Class<? extends RuntimeException> due, Runnable call) {
        String before = look(tracker);
        Class<?> thrown = null;
        try {
            call.run();
        } catch (RuntimeException e) {
            thrown = e.getClass();
        }
        if (thrown != due) {
            report(what + " threw " + thrown + ", due is " + due);
        }
        same("what is seen after " + what, look(tracker), before);
    }

    static void failsOnIndex(String what, TouchTracker tracker, Runnable call) {
        fails(what, tracker, IndexOutOfBoundsException.class, call);
    }

    static void failsOnArgument(String what, TouchTracker tracker, Runnable call) {
        fails(what, tracker, IllegalArgumentException.class, call);
    }

    static void failsOnState(String what, TouchTracker tracker, Runnable call) {
        fails(what, tracker, IllegalStateException.class, call);
    }

    /** The four parts of a contact must be these. */
    static void contact(TouchTracker tracker, int contact, int row, int column, int mass, int peak) {
        same("row of " + contact, tracker.contact(contact, 0), row);
        same("column of " + contact, tracker.contact(contact, 1), column);
        same("mass of " + contact, tracker.contact(contact, 2), mass);
        same("peak of " + contact, tracker.contact(contact, 3), peak);
    }

    /** Sets the raw values of the cells with these numbers. */
    static void put(TouchTracker tracker, int value, int... cells) {
        for (int cell : cells) {
            tracker.setRaw(cell / COLUMNS, cell % COLUMNS, value);
        }
    }

    /** Lifts all fingers, and puts one on each of the cells with these numbers. */
    static void touch(TouchTracker tracker, int... cells) {
        tracker.release();
        put(tracker, 50, cells);
    }

    /** Empties the text buffer, and types this text. */
    static void type(TouchTracker tracker, String text) {
        tracker.clearText();
        for (int i = 0; i < text.length(); i++) {
            tracker.appendText(text.charAt(i));
        }
    }

    /** All that the queries tell of the state; it takes some 150 calls, of the 512 that an object is for. */
    static String lookAtState(TouchTracker tracker) {
        StringBuilder seen = new StringBuilder();
        for (int row = 0; row < ROWS; row++) {
            for (int column = 0; column < COLUMNS; column++) {
                seen.append(tracker.raw(row, column)).append('/').append(tracker.signal(row, column)).append(' ');
            }
            seen.append('\n');
        }
        for (int setting = 0; setting < 5; setting++) {
            seen.append(tracker.setting(setting)).append(' ');
        }
        for (int track = 0; track < 6; track++) {
            seen.append("\ntrack ").append(tracker.isDown(track));
            for (int part = 0; part < 4; part++) {
                seen.append(' ').append(tracker.track(track, part));
            }
            seen.append(" match ").append(tracker.match(track));
        }
        seen.append("\ncontacts ").append(tracker.contacts()).append(" cost ").append(tracker.matchingCost());
        seen.append("\ncounts ").append(tracker.frames()).append(' ').append(tracker.downs());
        seen.append(' ').append(tracker.ups()).append(' ').append(tracker.downIfScanned());
        return seen.append(' ').append(tracker.meanSignal()).append('\n').toString();
    }

    static String look(TouchTracker tracker) {
        return lookAtState(tracker) + "saved " + tracker.savedStates() + " text " + tracker.textLength()
                + " error " + tracker.errorPosition();
    }

    static void end() {
        if (wrong != 0) {
            System.out.println(wrong + " answers are not as due");
            System.exit(1);
        }
    }

    private static void report(String message) {
        wrong++;
        System.out.println(message);
    }
}
