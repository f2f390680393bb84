import java.util.EnumMap;
import java.util.Map;
import java.util.function.Consumer;

/**
 * Section 8, EXCEPTIONS: each call that is refused, in each scene, with the exception that the document names
 * first, and that such a call changes nothing: not the state, not a saved one, not the text.
 */
final class RefusalTest {
    private static final Class<?> INDEX = IndexOutOfBoundsException.class;
    private static final Class<?> ARGUMENT = IllegalArgumentException.class;
    private static final Class<?> STATE = IllegalStateException.class;
    /** 6 * 715827883 wraps round to 2, 6 * -715827882 to 4: numbers of cells. */
    private static final int[] OFF_ROWS = {-1, 8, 9, 715827883, -715827882, Integer.MIN_VALUE, Integer.MAX_VALUE};
    private static final int[] OFF_COLUMNS = {-1, 6, 7, 47, 48, Integer.MIN_VALUE, Integer.MAX_VALUE};
    private static final int[] OFF_BYTES = {-1, 256, 257, -255, 65536 + 9, Integer.MIN_VALUE, Integer.MAX_VALUE};
    private static final int[] OFF_SIX = {-1, 6, 7, 32, 64, Integer.MIN_VALUE, Integer.MAX_VALUE};
    private static final int[] OFF_PARTS = {-1, 4, 5, Integer.MIN_VALUE, Integer.MAX_VALUE};
    private static final int[] OFF_CHARACTERS = {-1, 0, 31, 127, 128, 256 + 's', 65536 + 's', -1 - 's',
        Integer.MIN_VALUE, Integer.MAX_VALUE};
    private static final int[] NEGATIVE = {-1, -2, Integer.MIN_VALUE};

    private static final Map<Scene, String[]> TWINS = new EnumMap<>(Scene.class);

    public static void main(String[] args) {
        setRaw();
        press();
        set();
        appendText();
        runText();
        undo();
        cellQueries();
        regions();
        setting();
        contact();
        isDownAndMatch();
        track();
        squaredDistance();
        Check.end();
    }

    // ---- the calls

    private static void setRaw() {
        eachOffCell((row, column) -> {
            refused("setRaw", INDEX, x -> x.setRaw(row, column, 7), row, column);
            refused("setRaw with no value", INDEX, x -> x.setRaw(row, column, 256), row, column);
        });
        for (int value : OFF_BYTES) {
            refused("setRaw", ARGUMENT, x -> x.setRaw(0, 0, value), value);
            refused("setRaw of the last cell", ARGUMENT, x -> x.setRaw(7, 5, value), value);
        }
    }

    private static void press() {
        eachOffCell((row, column) -> {
            refused("press", INDEX, x -> x.press(row, column, 255), row, column);
            refused("press with no force", INDEX, x -> x.press(row, column, 0), row, column);
        });
        refused("press", ARGUMENT, x -> x.press(3, 3, 0), 0);
        for (int force : OFF_BYTES) {
            refused("press", ARGUMENT, x -> x.press(0, 0, force), force);
            refused("press of the last cell", ARGUMENT, x -> x.press(7, 5, force), force);
        }
    }

    private static void set() {
        int[] least = {1, 1, 1, 1, 0};
        int[] greatest = {100, 48, 255, 1000, 5};
        for (int setting = 0; setting < 5; setting++) {
            int number = setting;
            for (int value : new int[] {least[setting] - 1, greatest[setting] + 1, 1001, -20, 65536 + 5,
                Integer.MIN_VALUE, Integer.MAX_VALUE}) {
                refused("set", ARGUMENT, x -> x.set(number, value), number, value);
            }
        }
        for (int setting : new int[] {-1, 5, 6, 256, Integer.MIN_VALUE, Integer.MAX_VALUE}) {
            refused("set", INDEX, x -> x.set(setting, 5), setting);
            refused("set to no value", INDEX, x -> x.set(setting, 0), setting);
            refused("set to no value", INDEX, x -> x.set(setting, 1001), setting);
        }
    }

    private static void appendText() {
        for (int character : OFF_CHARACTERS) {
            refused("appendText", ARGUMENT, x -> x.appendText(character), character);
        }
        for (int character : new int[] {32, 's', ';', 126}) {
            refusedIn(Scene.FULL, "appendText to a full text", STATE, x -> x.appendText(character));
            refusedIn(Scene.FULL_WITHOUT_END, "appendText to a full text", STATE, x -> x.appendText(character));
        }
    }

    private static void runText() {
        refusedIn(Scene.NEW, "runText of an empty text", STATE, TouchTracker::runText);
        refusedIn(Scene.UNDONE, "runText of a wrong text", STATE, TouchTracker::runText);
        refusedIn(Scene.FULL_WITHOUT_END, "runText of a text without an end", STATE, TouchTracker::runText);
    }

    private static void undo() {
        refusedIn(Scene.NEW, "undo of nothing", STATE, TouchTracker::undo);
        refusedIn(Scene.UNDONE, "undo of nothing more", STATE, TouchTracker::undo);
    }

    private static void cellQueries() {
        eachOffCell((row, column) -> {
            refused("raw", INDEX, x -> x.raw(row, column), row, column);
            refused("signal", INDEX, x -> x.signal(row, column), row, column);
            refused("regionSize", INDEX, x -> x.regionSize(row, column), row, column);
            refused("regionKind", INDEX, x -> x.regionKind(row, column), row, column);
        });
    }

    private static void regions() {
        for (int kind : new int[] {-1, 3, 4, Integer.MIN_VALUE, Integer.MAX_VALUE}) {
            refused("regions", ARGUMENT, x -> x.regions(kind), kind);
        }
    }

    private static void setting() {
        for (int setting : new int[] {-1, 5, 6, Integer.MIN_VALUE, Integer.MAX_VALUE}) {
            refused("setting", INDEX, x -> x.setting(setting), setting);
        }
    }

    private static void contact() {
        for (int contact : NEGATIVE) {
            refused("contact", INDEX, x -> x.contact(contact, 0), contact);
            refused("contact and its last part", INDEX, x -> x.contact(contact, 3), contact);
            for (int part : OFF_PARTS) {
                refused("contact and no part", INDEX, x -> x.contact(contact, part), contact, part);
            }
        }
        for (int part : OFF_PARTS) {
            for (int contact : new int[] {0, 5, 6, Integer.MAX_VALUE}) {
                refused("contact", ARGUMENT, x -> x.contact(contact, part), contact, part);
            }
        }
    }

    private static void isDownAndMatch() {
        for (int track : OFF_SIX) {
            refused("isDown", INDEX, x -> x.isDown(track), track);
            refused("match", INDEX, x -> x.match(track), track);
        }
    }

    private static void track() {
        for (int track : OFF_SIX) {
            refused("track", INDEX, x -> x.track(track, 0), track);
            refused("track and its last part", INDEX, x -> x.track(track, 3), track);
            for (int part : OFF_PARTS) {
                refused("track and no part", INDEX, x -> x.track(track, part), track, part);
            }
        }
        for (int part : OFF_PARTS) {
            for (int track = 0; track < 6; track++) {
                int number = track;
                refused("track", ARGUMENT, x -> x.track(number, part), number, part);
            }
        }
    }

    private static void squaredDistance() {
        for (int track : OFF_SIX) {
            for (int contact : new int[] {0, 6, -1}) {
                refused("squaredDistance", INDEX, x -> x.squaredDistance(track, contact), track, contact);
            }
        }
        for (int contact : NEGATIVE) {
            for (int track : new int[] {0, 5}) {
                refused("squaredDistance", INDEX, x -> x.squaredDistance(track, contact), track, contact);
            }
        }
    }

    // ---- how they are tried

    private interface Cell {
        void at(int row, int column);
    }

    /** Rows and columns that are not on the panel, some of them with 6 * row + column from 0 to 47 all the same. */
    private static void eachOffCell(Cell cell) {
        for (int row : OFF_ROWS) {
            cell.at(row, 0);
            cell.at(row, 5);
        }
        for (int column : OFF_COLUMNS) {
            cell.at(0, column);
            cell.at(7, column);
        }
        cell.at(1, -1);
        cell.at(-1, 6);
        cell.at(8, -6);
        cell.at(8, 6);
        cell.at(715827882, 4);
    }

    private static void refused(String what, Class<?> due, Consumer<TouchTracker> call, int... arguments) {
        StringBuilder told = new StringBuilder(what);
        for (int argument : arguments) {
            told.append(' ').append(argument);
        }
        for (Scene scene : Scene.values()) {
            refusedIn(scene, told.toString(), due, call);
        }
    }

    private static void refusedIn(Scene scene, String what, Class<?> due, Consumer<TouchTracker> call) {
        String told = what + " in the scene " + scene;
        String[] twin = TWINS.computeIfAbsent(scene, RefusalTest::looks);
        for (int view = 0; view < twin.length; view++) {
            TouchTracker x = scene.make();
            Class<?> thrown = null;
            try {
                call.accept(x);
            } catch (RuntimeException e) {
                thrown = e.getClass();
            }
            if (thrown != due) {
                Check.yes(told + " threw " + thrown + "; that " + due + " is thrown", false);
                return;
            }
            Check.same(told + ", seen in the way " + view, look(x, view), twin[view]);
        }
    }

    private static String[] looks(Scene scene) {
        String[] looks = new String[scene.make().savedStates() + 2];
        for (int view = 0; view < looks.length; view++) {
            looks[view] = look(scene.make(), view);
        }
        return looks;
    }

    /** What is seen after some undos; in the last way, one more than there are undos, what the text does. */
    private static String look(TouchTracker x, int view) {
        if (view <= x.savedStates()) {
            for (int i = 0; i < view; i++) {
                x.undo();
            }
            return Check.look(x);
        }
        int error = x.errorPosition();
        return error + " " + (error == TouchTracker.NONE ? x.runText() : 0) + "\n" + Check.look(x);
    }
}
