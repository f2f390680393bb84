/** Section 1, THE PANEL, with promises 1 to 5, 13 and 14: a test for each sentence with an edge. */
final class PanelEdgeTest {
    public static void main(String[] args) {
        newObject();
        rowsAndColumns();
        cellNumbers();
        rawValues();
        baselines();
        signals();
        neighbors();
        halfAndQuarter();
        pressUpTo255();
        manyPresses();
        pressReturnsTheRawValue();
        setRawTouchesOneCell();
        releaseOfNoneToAll();
        calibrateOfNoneToAll();
        calibrateDownAndUp();
        Check.end();
    }

    /** "Creates a panel that is not touched, with all tracks up." */
    private static void newObject() {
        TouchTracker x = new TouchTracker();
        for (int cell = 0; cell < 48; cell++) {
            Check.same("size of " + cell, x.regionSize(cell / 6, cell % 6), 0);
            Check.same("kind of " + cell, x.regionKind(cell / 6, cell % 6), -1);
        }
        for (int kind = 0; kind < 3; kind++) {
            Check.same("regions of the kind " + kind, x.regions(kind), 0);
        }
        for (int number = 0; number < 6; number++) {
            Check.yes("the track " + number + " is up", !x.isDown(number));
            for (int part = 0; part < 4; part++) {
                Check.same("part of the track " + number, x.track(number, part), -1);
                Check.same("part of the contact " + number, x.contact(number, part), -1);
            }
            Check.same("match of " + number, x.match(number), -1);
            Check.same("squaredDistance of " + number, x.squaredDistance(number, 0), -1);
        }
        Check.same("contacts", x.contacts(), 0);
        Check.same("matchingCost", x.matchingCost(), 0);
        Check.same("downIfScanned", x.downIfScanned(), 0);
        Check.same("meanSignal", Float.floatToIntBits(x.meanSignal()), 0);
        Check.same("errorPosition", x.errorPosition(), 0);
        Check.same("clearText", x.clearText(), 0);
        Check.same("release", x.release(), 0);
        Check.same("calibrate", x.calibrate(), 0);
        Check.same("scan", x.scan(), 0);
    }

    /** "The panel has eight rows, numbered 0 to 7, and six columns, numbered 0 to 5."; beyond them: RefusalTest. */
    private static void rowsAndColumns() {
        TouchTracker x = new TouchTracker();
        for (int cell = 0; cell < 48; cell++) {
            Check.same("setRaw of " + cell, x.setRaw(cell / 6, cell % 6, 101 + cell), 0);
        }
        for (int cell = 0; cell < 48; cell++) {
            Check.same("raw of " + cell, x.raw(cell / 6, cell % 6), 101 + cell);
            Check.same("signal of " + cell, x.signal(cell / 6, cell % 6), 101 + cell);
            Check.same("size of " + cell, x.regionSize(cell / 6, cell % 6), 48);
            Check.same("kind of " + cell, x.regionKind(cell / 6, cell % 6), TouchTracker.PALM_REGION);
        }
        for (int cell = 0; cell < 48; cell++) {
            Check.same("press of " + cell, new TouchTracker().press(cell / 6, cell % 6, 9), 9);
        }
    }

    /** "The cell at the row r and the column c has the number 6 * r + c." */
    private static void cellNumbers() {
        for (int row = 0; row < 8; row++) {
            for (int column = 0; column < 6; column++) {
                TouchTracker x = new TouchTracker();
                x.setRaw(row, column, 50);
                Check.same("the number of its peak", x.contact(0, 3), 6 * row + column);
                Check.same("its row", x.contact(0, 0), 100 * row);
                Check.same("its column", x.contact(0, 1), 100 * column);
            }
        }
    }

    /** "Each cell has a raw value .. from 0 to 255 and 0 at first." */
    private static void rawValues() {
        for (int value = 0; value <= 255; value++) {
            TouchTracker x = new TouchTracker();
            Check.same("setRaw " + value, x.setRaw(7, 5, value), 0);
            Check.same("raw " + value, x.raw(7, 5), value);
            Check.same("setRaw over " + value, x.setRaw(7, 5, 255 - value), value);
            Check.same("raw " + (255 - value), x.raw(7, 5), 255 - value);
            Check.same("saved", x.savedStates(), 2);
        }
    }

    /** "Each cell has .. a baseline .. from 0 to 255 and 0 at first." */
    private static void baselines() {
        for (int value = 0; value <= 255; value++) {
            TouchTracker x = new TouchTracker();
            x.setRaw(0, 5, value);
            Check.same("signal over the first baseline", x.signal(0, 5), value);
            Check.same("calibrate at " + value, x.calibrate(), value == 0 ? 0 : 1);
            Check.same("signal at the baseline", x.signal(0, 5), 0);
            x.setRaw(0, 5, 255);
            Check.same("the greatest signal over " + value, x.signal(0, 5), 255 - value);
        }
    }

    /** "The signal of a cell is its raw value minus its baseline, or 0 if this is negative." */
    private static void signals() {
        for (int baseline : new int[] {1, 2, 100, 127, 128, 254}) {
            TouchTracker x = new TouchTracker();
            x.setRaw(4, 0, baseline);
            x.calibrate();
            int[][] due = {{0, 0}, {baseline - 1, 0}, {baseline, 0}, {baseline + 1, 1}, {255, 255 - baseline}};
            for (int[] pair : due) {
                x.setRaw(4, 0, pair[0]);
                Check.same(pair[0] + " over " + baseline, x.signal(4, 0), pair[1]);
                Check.same("the raw value stands", x.raw(4, 0), pair[0]);
            }
        }
    }

    /** "The neighbors of a cell are the up to eight cells ..", "Its side neighbors are the up to four of them ..". */
    private static void neighbors() {
        for (int cell = 0; cell < 48; cell++) {
            for (int force : new int[] {4, 255}) {
                TouchTracker x = new TouchTracker();
                x.press(cell / 6, cell % 6, force);
                for (int other = 0; other < 48; other++) {
                    Check.same("raw of " + other + " if " + cell + " is pressed", x.raw(other / 6, other % 6),
                            pressed(cell, other, force));
                }
            }
        }
    }

    private static int pressed(int cell, int other, int force) {
        int rows = Math.abs(cell / 6 - other / 6);
        int columns = Math.abs(cell % 6 - other % 6);
        if (rows > 1 || columns > 1) {
            return 0;
        }
        int[] shares = {force, force / 2, force / 4};
        return shares[rows + columns];
    }

    /** ".. by half the force, and those of its other neighbors by a quarter of the force (both rounded down)". */
    private static void halfAndQuarter() {
        for (int force = 1; force <= 255; force++) {
            TouchTracker x = new TouchTracker();
            Check.same("press " + force, x.press(3, 3, force), force);
            for (int row = 1; row <= 5; row++) {
                for (int column = 1; column <= 5; column++) {
                    Check.same("raw " + row + " " + column + " of " + force, x.raw(row, column),
                            pressed(21, 6 * row + column, force));
                }
            }
        }
    }

    /** "a raw value that would be greater than 255 becomes 255." */
    private static void pressUpTo255() {
        for (int force : new int[] {1, 8, 201, 255}) {
            for (int other : new int[] {14, 15, 16, 20, 21, 22, 26, 27, 28}) {
                int more = pressed(21, other, force);
                for (int sum = 254; sum <= 256; sum++) {
                    int before = sum - more;
                    if (before >= 0 && before <= 255) {
                        TouchTracker x = new TouchTracker();
                        Check.put(x, before, other);
                        int after = x.press(3, 3, force);
                        int due = sum < 255 ? sum : 255;
                        Check.same("raw of " + other + " for the sum " + sum, x.raw(other / 6, other % 6), due);
                        Check.same("press", after, other == 21 ? due : force);
                    }
                }
            }
        }
    }

    /** The greatest sum there is: all cells at 255, and each pressed with 255. */
    private static void manyPresses() {
        TouchTracker x = new TouchTracker();
        for (int cell = 0; cell < 48; cell++) {
            x.setRaw(cell / 6, cell % 6, 255);
        }
        for (int cell = 0; cell < 48; cell++) {
            Check.same("press of a full panel", x.press(cell / 6, cell % 6, 255), 255);
        }
        for (int cell = 0; cell < 48; cell++) {
            Check.same("raw of a full panel", x.raw(cell / 6, cell % 6), 255);
        }
    }

    /** "Returns the raw value of the cell after the call.": not its signal, and not what was added. */
    private static void pressReturnsTheRawValue() {
        TouchTracker x = new TouchTracker();
        x.setRaw(7, 0, 150);
        x.calibrate();
        Check.same("press over a baseline", x.press(7, 0, 104), 254);
        Check.same("signal", x.signal(7, 0), 104);
        Check.same("press to 255", x.press(7, 0, 1), 255);
        Check.same("press beyond", x.press(7, 0, 1), 255);
        Check.same("signal", x.signal(7, 0), 105);
        x.release();
        Check.same("press below the baseline", x.press(7, 0, 149), 149);
        Check.same("signal", x.signal(7, 0), 0);
    }

    /** "Sets the raw value of a cell.": of this one alone. */
    private static void setRawTouchesOneCell() {
        for (int cell = 0; cell < 48; cell++) {
            TouchTracker x = new TouchTracker();
            x.setRaw(cell / 6, cell % 6, 255);
            for (int other = 0; other < 48; other++) {
                Check.same("raw of " + other, x.raw(other / 6, other % 6), other == cell ? 255 : 0);
            }
        }
    }

    /** "Returns the number of cells whose raw value was not 0." */
    private static void releaseOfNoneToAll() {
        for (int number = 0; number <= 48; number++) {
            TouchTracker x = new TouchTracker();
            for (int cell = 0; cell < number; cell++) {
                x.setRaw(cell / 6, cell % 6, cell % 2 == 0 ? 1 : 255);
            }
            Check.same("release of " + number, x.release(), number);
            for (int cell = 0; cell < 48; cell++) {
                Check.same("raw of " + cell, x.raw(cell / 6, cell % 6), 0);
            }
            Check.same("release of none", x.release(), 0);
        }
        TouchTracker last = new TouchTracker();
        last.setRaw(7, 5, 1);
        Check.same("release of the last cell", last.release(), 1);
    }

    /** "Returns the number of baselines that change." */
    private static void calibrateOfNoneToAll() {
        for (int number = 0; number <= 48; number++) {
            TouchTracker x = new TouchTracker();
            for (int cell = 48 - number; cell < 48; cell++) {
                x.setRaw(cell / 6, cell % 6, cell % 2 == 0 ? 1 : 255);
            }
            Check.same("calibrate of " + number, x.calibrate(), number);
            for (int cell = 0; cell < 48; cell++) {
                Check.same("signal of " + cell, x.signal(cell / 6, cell % 6), 0);
            }
            Check.same("calibrate of none", x.calibrate(), 0);
            x.release();
            Check.same("calibrate back to 0", x.calibrate(), number);
        }
    }

    /** "the baseline of each cell becomes its raw value": also the one that is greater, and by 1 too. */
    private static void calibrateDownAndUp() {
        TouchTracker x = new TouchTracker();
        Check.put(x, 100, 0, 20, 47);
        x.calibrate();
        Check.put(x, 99, 0);
        Check.put(x, 101, 47);
        Check.same("one down and one up", x.calibrate(), 2);
        Check.put(x, 103, 0, 20, 47);
        Check.same("over the lowered one", x.signal(0, 0), 4);
        Check.same("over the one that stood", x.signal(3, 2), 3);
        Check.same("over the raised one", x.signal(7, 5), 2);
    }
}
