/** Section 3, CONTACTS, with promises 15 to 17, 19, 20 and 30: a test for each sentence with an edge. */
final class ContactEdgeTest {
    private static final int[] TWELVE = {0, 2, 4, 12, 14, 16, 24, 26, 28, 36, 38, 40};

    public static void main(String[] args) {
        touched();
        touchedOverABaseline();
        pairsOfCells();
        longestRegions();
        regionsOfNoneToAll();
        mostRegions();
        palmOfEachSize();
        waterAtEachSharpness();
        oneSharpCellIsEnough();
        palmBeforeWater();
        peaksAndTheirNeighbors();
        neighborInAnotherRegion();
        blockOfEachPeak();
        greatestMass();
        positionsRoundedDown();
        contactsUpToSix();
        seventhByMass();
        seventhByNumber();
        contactNumbers();
        contactsOverBaselines();
        meanSignal();
        Check.end();
    }

    private static void duePeaks(String what, TouchTracker x, int... peaks) {
        Check.same(what + ": contacts", x.contacts(), peaks.length);
        for (int contact = 0; contact < peaks.length; contact++) {
            Check.same(what + ": peak of " + contact, x.contact(contact, 3), peaks[contact]);
        }
        Check.same(what + ": no contact more", x.contact(peaks.length, 3), TouchTracker.NONE);
    }

    private static boolean areNeighbors(int cell, int other) {
        return cell != other && Math.abs(cell / 6 - other / 6) <= 1 && Math.abs(cell % 6 - other % 6) <= 1;
    }

    private static boolean areSideNeighbors(int cell, int other) {
        return Math.abs(cell / 6 - other / 6) + Math.abs(cell % 6 - other % 6) == 1;
    }

    /** "A cell is touched if its signal is at least THRESHOLD.", "0 if the cell is not touched", "NONE if ..". */
    private static void touched() {
        for (int threshold = 1; threshold <= 100; threshold++) {
            TouchTracker x = new TouchTracker();
            x.set(TouchTracker.THRESHOLD, threshold);
            x.set(TouchTracker.SHARP, 1);
            dueTouched(x, threshold - 1, false);
            dueTouched(x, threshold, true);
            dueTouched(x, threshold + 1, true);
        }
    }

    private static void dueTouched(TouchTracker x, int value, boolean touched) {
        x.setRaw(7, 0, value);
        Check.same("size at " + value, x.regionSize(7, 0), touched ? 1 : 0);
        Check.same("kind at " + value, x.regionKind(7, 0), touched ? TouchTracker.FINGER : TouchTracker.NONE);
        Check.same("regions at " + value, x.regions(TouchTracker.FINGER), touched ? 1 : 0);
        Check.same("contacts at " + value, x.contacts(), touched ? 1 : 0);
        Check.same("mean at " + value, x.meanSignal(), touched ? (float) value : 0.0f);
    }

    /** It is the signal that counts, not the raw value. */
    private static void touchedOverABaseline() {
        TouchTracker x = new TouchTracker();
        x.setRaw(3, 3, 200);
        x.calibrate();
        int[][] due = {{200, 0}, {180, 0}, {219, 0}, {220, 1}, {221, 1}};
        for (int[] pair : due) {
            x.setRaw(3, 3, pair[0]);
            Check.same("size at " + pair[0], x.regionSize(3, 3), pair[1]);
        }
    }

    /** "A region is a largest set of touched cells that are connected by side neighbors." */
    private static void pairsOfCells() {
        for (int cell = 0; cell < 48; cell++) {
            for (int other = cell + 1; other < 48; other++) {
                TouchTracker x = new TouchTracker();
                Check.put(x, 50, cell, other);
                int size = areSideNeighbors(cell, other) ? 2 : 1;
                String pair = cell + " and " + other;
                Check.same("size of " + pair, x.regionSize(cell / 6, cell % 6), size);
                Check.same("size of " + pair, x.regionSize(other / 6, other % 6), size);
                Check.same("regions of " + pair, x.regions(TouchTracker.FINGER), 3 - size);
            }
        }
    }

    /** "connected": over as many cells as there may be between two, whichever way the region winds. */
    private static void longestRegions() {
        String[][] panels = {
            {"xxxxxx", ".....x", "xxxxxx", "x.....", "xxxxxx", ".....x", "xxxxxx", "x....."},
            {".....x", "xxxxxx", "x.....", "xxxxxx", ".....x", "xxxxxx", "x.....", "xxxxxx"},
            {"xxx.xx", "x.x.x.", "x.x.x.", "x.x.x.", "x.x.x.", "x.x.x.", "x.x.x.", "..xxx."},
            {"..xxx.", "x.x.x.", "x.x.x.", "x.x.x.", "x.x.x.", "x.x.x.", "x.x.x.", "xxx.xx"},
            {"xxxxxx", ".....x", "xxxx.x", "x..x.x", "x.xx.x", "x....x", "xxxxxx", "......"},
            {"......", "xxxxxx", "x....x", "x.xx.x", "x.x..x", "x.xxxx", "x.....", "xxxxxx"},
            {"x....x", "x....x", "x....x", "x....x", "x....x", "x....x", "x....x", "xxxxxx"},
            {"....xx", "...xx.", "..xx..", ".xx...", "xx....", "x.....", "xx....", ".xxxxx"},
        };
        for (String[] panel : panels) {
            TouchTracker x = new TouchTracker();
            x.set(TouchTracker.PALM, 48);
            int size = 0;
            for (int cell = 0; cell < 48; cell++) {
                if (panel[cell / 6].charAt(cell % 6) == 'x') {
                    Check.put(x, 50, cell);
                    size++;
                }
            }
            for (int cell = 0; cell < 48; cell++) {
                boolean in = panel[cell / 6].charAt(cell % 6) == 'x';
                Check.same("size of " + cell, x.regionSize(cell / 6, cell % 6), in ? size : 0);
            }
            Check.same("regions", x.regions(TouchTracker.FINGER), 1);
        }
    }

    /** "Returns the number of cells of the region of a cell.": from none to the whole panel. */
    private static void regionsOfNoneToAll() {
        for (int number = 0; number <= 48; number++) {
            TouchTracker x = new TouchTracker();
            x.set(TouchTracker.PALM, 48);
            for (int cell = 0; cell < number; cell++) {
                x.setRaw(cell / 6, cell % 6, 50);
            }
            for (int cell = 0; cell < 48; cell++) {
                Check.same("size of " + cell + " of " + number, x.regionSize(cell / 6, cell % 6),
                        cell < number ? number : 0);
            }
            Check.same("regions of " + number, x.regions(TouchTracker.FINGER), number == 0 ? 0 : 1);
            Check.same("contacts of " + number, x.contacts(), number == 0 ? 0 : 1);
        }
    }

    /** "Returns the number of regions of a kind.": as many as there may be, of each kind. */
    private static void mostRegions() {
        for (int odd = 0; odd <= 1; odd++) {
            TouchTracker x = new TouchTracker();
            for (int cell = 0; cell < 48; cell++) {
                if ((cell / 6 + cell % 6) % 2 == odd) {
                    x.setRaw(cell / 6, cell % 6, 30);
                }
            }
            Check.same("fingers", x.regions(TouchTracker.FINGER), 24);
            x.set(TouchTracker.SHARP, 31);
            Check.same("water", x.regions(TouchTracker.WATER), 24);
            Check.same("no fingers", x.regions(TouchTracker.FINGER), 0);
        }
        TouchTracker y = new TouchTracker();
        y.set(TouchTracker.PALM, 1);
        Check.put(y, 50, 0, 1, 3, 4, 12, 13, 15, 16, 24, 25, 27, 28, 36, 37, 39, 40);
        Check.same("palms", y.regions(TouchTracker.PALM_REGION), 8);
        Check.same("no water", y.regions(TouchTracker.WATER), 0);
        Check.same("no fingers", y.regions(TouchTracker.FINGER), 0);
    }

    /** "A region is a palm if it has more than PALM cells." */
    private static void palmOfEachSize() {
        for (int palm = 1; palm <= 48; palm++) {
            for (int size = Math.max(1, palm - 1); size <= Math.min(48, palm + 1); size++) {
                TouchTracker x = new TouchTracker();
                x.set(TouchTracker.PALM, palm);
                for (int cell = 0; cell < size; cell++) {
                    x.setRaw(cell / 6, cell % 6, 50);
                }
                boolean isPalm = size > palm;
                Check.same("kind of " + size + " with PALM " + palm, x.regionKind(0, 0),
                        isPalm ? TouchTracker.PALM_REGION : TouchTracker.FINGER);
                Check.same("palms", x.regions(TouchTracker.PALM_REGION), isPalm ? 1 : 0);
                Check.same("fingers", x.regions(TouchTracker.FINGER), isPalm ? 0 : 1);
                Check.same("contacts", x.contacts(), isPalm ? 0 : 1);
            }
        }
    }

    /** "A region that is not a palm is water if the greatest signal of its cells is less than SHARP." */
    private static void waterAtEachSharpness() {
        for (int sharp = 1; sharp <= 255; sharp++) {
            for (int signal = Math.max(1, sharp - 1); signal <= Math.min(255, sharp + 1); signal++) {
                TouchTracker x = new TouchTracker();
                x.set(TouchTracker.THRESHOLD, 1);
                x.set(TouchTracker.SHARP, sharp);
                x.setRaw(7, 5, signal);
                boolean water = signal < sharp;
                Check.same("kind of " + signal + " with SHARP " + sharp, x.regionKind(7, 5),
                        water ? TouchTracker.WATER : TouchTracker.FINGER);
                Check.same("water", x.regions(TouchTracker.WATER), water ? 1 : 0);
                Check.same("fingers", x.regions(TouchTracker.FINGER), water ? 0 : 1);
                Check.same("contacts", x.contacts(), water ? 0 : 1);
            }
        }
    }

    /** "the greatest signal of its cells": whichever cell has it, the first or the last. */
    private static void oneSharpCellIsEnough() {
        int[] row = {24, 25, 26, 27, 28, 29};
        for (int sharp : row) {
            TouchTracker x = new TouchTracker();
            Check.put(x, 29, row);
            Check.same("all below", x.regionKind(4, 0), TouchTracker.WATER);
            Check.put(x, 30, sharp);
            for (int cell : row) {
                Check.same("kind of " + cell, x.regionKind(4, cell % 6), TouchTracker.FINGER);
            }
        }
    }

    /** "A region that is not a palm is water ..": a palm is none, however weak; "All other regions are fingers." */
    private static void palmBeforeWater() {
        TouchTracker x = new TouchTracker();
        x.set(TouchTracker.PALM, 2);
        Check.put(x, 20, 10, 11, 17);
        Check.same("a weak palm", x.regionKind(1, 5), TouchTracker.PALM_REGION);
        Check.put(x, 255, 10, 11, 17);
        Check.same("a sharp palm", x.regionKind(1, 5), TouchTracker.PALM_REGION);
        Check.put(x, 0, 17);
        Check.same("a finger", x.regionKind(1, 5), TouchTracker.FINGER);
        Check.put(x, 29, 10, 11);
        Check.same("water", x.regionKind(1, 5), TouchTracker.WATER);
    }

    /** ".. a peak if none of its neighbors has a greater signal, and no neighbor with a lower number has the same". */
    private static void peaksAndTheirNeighbors() {
        for (int cell = 0; cell < 48; cell++) {
            for (int other = 0; other < 48; other++) {
                for (int signal = 49; signal <= 51 && other != cell; signal++) {
                    TouchTracker x = new TouchTracker();
                    Check.put(x, 50, cell);
                    Check.put(x, signal, other);
                    int lower = Math.min(cell, other);
                    String what = cell + " at 50 and " + other + " at " + signal;
                    if (!areNeighbors(cell, other)) {
                        duePeaks(what, x, lower, Math.max(cell, other));
                    } else if (signal == 50) {
                        duePeaks(what, x, lower);
                    } else {
                        duePeaks(what, x, signal == 51 ? other : cell);
                    }
                }
            }
        }
    }

    /** Neighbors of any kind of region count, for the peak and for the block. */
    private static void neighborInAnotherRegion() {
        TouchTracker x = new TouchTracker();
        Check.put(x, 50, 12);
        Check.put(x, 21, 13);
        Check.put(x, 24, 14);
        Check.put(x, 23, 21);
        Check.same("the corner neighbor is water", x.regionKind(3, 3), TouchTracker.WATER);
        duePeaks("water below", x, 12, 14);
        Check.same("its mass", x.contact(1, 2), 21 + 24 + 23);
        Check.put(x, 24, 21);
        duePeaks("water as strong, of a higher number", x, 12, 14);
        Check.put(x, 25, 21);
        duePeaks("stronger water", x, 12);
        Check.put(x, 0, 21);
        Check.put(x, 24, 9);
        duePeaks("water as strong, of a lower number", x, 12);
        Check.put(x, 23, 9);
        duePeaks("weaker water of a lower number", x, 12, 14);
    }

    /** "The block of a candidate consists of the peak and its neighbors.", "The mass .. is the sum of the signals". */
    private static void blockOfEachPeak() {
        for (int cell = 0; cell < 48; cell++) {
            TouchTracker x = new TouchTracker();
            x.set(TouchTracker.SHARP, 100);
            int mass = 0;
            int rows = 0;
            int columns = 0;
            for (int other = 0; other < 48; other++) {
                int signal = other == cell ? 200 : areNeighbors(cell, other) ? 1 + other % 19 : 19;
                Check.put(x, signal, other);
                boolean inBlock = other == cell || areNeighbors(cell, other);
                mass += inBlock ? signal : 0;
                rows += inBlock ? signal * (other / 6) : 0;
                columns += inBlock ? signal * (other % 6) : 0;
            }
            duePeaks("a panel full of weak signals", x, cell);
            Check.contact(x, 0, 100 * rows / mass, 100 * columns / mass, mass, cell);
        }
    }

    /** The greatest mass there is, and blocks of four and six cells of it. */
    private static void greatestMass() {
        TouchTracker x = new TouchTracker();
        Check.put(x, 255, 21, 22, 23, 27, 28, 29, 33, 34, 35);
        Check.contact(x, 0, (3 + 4) * 50, (3 + 4) * 50, 4 * 255, 21);
        Check.put(x, 254, 21, 22, 23, 27, 29, 33, 34, 35);
        Check.contact(x, 0, 400, 400, 255 + 8 * 254, 28);
        TouchTracker y = new TouchTracker();
        y.set(TouchTracker.PALM, 48);
        for (int cell = 0; cell < 48; cell++) {
            Check.put(y, 255, cell);
        }
        duePeaks("all cells alike", y, 0);
        Check.contact(y, 0, 50, 50, 4 * 255, 0);
        y.calibrate();
        y.release();
        Check.same("no signal at all", y.contacts(), 0);
    }

    /** "100 times the sum of signal times row .., divided by the mass, rounded down". */
    private static void positionsRoundedDown() {
        int[][] due = {{99, 1, 1}, {100, 1, 0}, {98, 1, 1}, {49, 1, 2}, {50, 1, 1}, {255, 1, 0}, {255, 3, 1},
            {200, 100, 33}, {255, 254, 49}, {255, 255, 50}, {20, 19, 48}};
        for (int[] row : due) {
            TouchTracker x = new TouchTracker();
            x.setRaw(0, 0, row[0]);
            x.setRaw(0, 1, row[1]);
            x.set(TouchTracker.SHARP, 1);
            Check.contact(x, 0, 0, row[2], row[0] + row[1], 0);
            TouchTracker y = new TouchTracker();
            y.setRaw(0, 0, row[0]);
            y.setRaw(1, 0, row[1]);
            y.set(TouchTracker.SHARP, 1);
            Check.contact(y, 0, row[2], 0, row[0] + row[1], 0);
        }
        TouchTracker last = new TouchTracker();
        Check.put(last, 255, 47);
        Check.contact(last, 0, 700, 500, 255, 47);
        Check.put(last, 1, 46, 41);
        Check.contact(last, 0, 699, 499, 257, 47);
    }

    /** "The contacts are the candidates, or, if there are more than six, the six ..". */
    private static void contactsUpToSix() {
        TouchTracker x = new TouchTracker();
        for (int number = 1; number <= 12; number++) {
            Check.put(x, 50, TWELVE[number - 1]);
            Check.same("contacts of " + number, x.contacts(), Math.min(number, 6));
            Check.same("regions of " + number, x.regions(TouchTracker.FINGER), number);
        }
        for (int contact = 0; contact < 6; contact++) {
            Check.same("the lower peaks of twelve", x.contact(contact, 3), TWELVE[contact]);
        }
        for (int place = 0; place < 12; place++) {
            Check.put(x, 50 + place, TWELVE[place]);
        }
        duePeaks("the heaviest of twelve", x, 24, 26, 28, 36, 38, 40);
        for (int place = 0; place < 12; place++) {
            Check.put(x, 70 - place, TWELVE[place]);
        }
        duePeaks("the heaviest of twelve", x, 0, 2, 4, 12, 14, 16);
        for (int place = 0; place < 12; place++) {
            Check.put(x, place % 2 == 0 ? 60 : 50, TWELVE[place]);
        }
        duePeaks("every second of twelve", x, 0, 4, 14, 24, 28, 38);
    }

    /** "the six with the greatest mass": a seventh that is lighter, as heavy, and heavier by one. */
    private static void seventhByMass() {
        TouchTracker x = new TouchTracker();
        Check.put(x, 50, 0, 2, 4, 12, 14, 16);
        Check.put(x, 49, 47);
        duePeaks("a lighter seventh", x, 0, 2, 4, 12, 14, 16);
        Check.put(x, 50, 47);
        duePeaks("a seventh as heavy", x, 0, 2, 4, 12, 14, 16);
        Check.put(x, 51, 47);
        duePeaks("a heavier seventh", x, 0, 2, 4, 12, 14, 47);
        // The mass decides, not the signal of the peak.
        Check.put(x, 49, 47);
        Check.put(x, 2, 46);
        duePeaks("a seventh of a heavier block", x, 0, 2, 4, 12, 14, 47);
    }

    /** "of several candidates with the same mass those whose peaks have the lower numbers come first." */
    private static void seventhByNumber() {
        TouchTracker x = new TouchTracker();
        Check.put(x, 50, 2, 4, 12, 14, 16, 47);
        Check.put(x, 49, 0);
        duePeaks("a lighter one before", x, 2, 4, 12, 14, 16, 47);
        Check.put(x, 50, 0);
        duePeaks("one as heavy before", x, 0, 2, 4, 12, 14, 16);
        Check.put(x, 51, 0);
        duePeaks("a heavier one before", x, 0, 2, 4, 12, 14, 16);
        Check.put(x, 51, 0, 2, 4, 12, 14, 47);
        duePeaks("one lighter among them", x, 0, 2, 4, 12, 14, 47);
        Check.put(x, 50, 0, 2);
        duePeaks("three as heavy for two places", x, 0, 2, 4, 12, 14, 47);
        Check.put(x, 51, 24, 26);
        duePeaks("all places are for the heavier ones", x, 4, 12, 14, 24, 26, 47);
    }

    /** "The contacts are numbered from 0 in ascending order ..": whatever their masses. */
    private static void contactNumbers() {
        TouchTracker x = new TouchTracker();
        for (int number = 0; number < 6; number++) {
            dueAscending(x, number);
            Check.put(x, 50 + number % 3, TWELVE[11 - number]);
        }
        dueAscending(x, 6);
    }

    /** "NONE if there are not so many contacts." */
    private static void dueAscending(TouchTracker x, int count) {
        for (int contact = 0; contact < count; contact++) {
            int place = 12 - count + contact;
            int cell = TWELVE[place];
            Check.contact(x, contact, cell / 6 * 100, cell % 6 * 100, 50 + (11 - place) % 3, cell);
        }
        for (int part = 0; part < 4; part++) {
            for (int contact : new int[] {count, count + 1, 6, 7, Integer.MAX_VALUE}) {
                Check.same("part of no contact", x.contact(contact, part), TouchTracker.NONE);
            }
        }
    }

    /** "computed from the signals": raw values and baselines alone are nothing. */
    private static void contactsOverBaselines() {
        TouchTracker x = new TouchTracker();
        Check.put(x, 200, 7, 13, 14, 15, 20, 21);
        x.calibrate();
        Check.same("no contact of raw values", x.contacts(), 0);
        Check.put(x, 229, 14);
        Check.put(x, 30, 22);
        Check.same("water over a baseline", x.regionKind(2, 2), TouchTracker.WATER);
        Check.same("a finger without one", x.regionKind(3, 4), TouchTracker.FINGER);
        duePeaks("not the raw value", x, 22);
        Check.contact(x, 0, 300, 400, 30, 22);
        Check.put(x, 230, 14);
        Check.put(x, 0, 22);
        Check.put(x, 29, 8);
        Check.put(x, 210, 21);
        duePeaks("a smaller raw value beside it", x, 14);
        Check.contact(x, 0, (29 * 100 + 30 * 200 + 10 * 300) / 69, (59 * 200 + 10 * 300) / 69, 69, 14);
        Check.put(x, 31, 8);
        duePeaks("a greater signal of a smaller raw value", x, 8);
    }

    /** "the sum of their signals, converted to float, divided by their number ..; 0.0f if no cell is touched." */
    private static void meanSignal() {
        TouchTracker x = new TouchTracker();
        x.setRaw(0, 0, 19);
        Check.same("none", Float.floatToIntBits(x.meanSignal()), 0);
        x.setRaw(7, 5, 20);
        Check.same("one", x.meanSignal(), 20.0f);
        x.setRaw(0, 5, 21);
        Check.same("two", x.meanSignal(), 20.5f);
        x.setRaw(7, 0, 21);
        Check.same("three", x.meanSignal(), 62.0f / 3.0f);
        TouchTracker y = new TouchTracker();
        int sum = 0;
        for (int cell = 0; cell < 48; cell++) {
            Check.put(y, 255 - cell, cell);
            sum += 255 - cell;
            Check.same("the first " + (cell + 1), y.meanSignal(), (float) sum / (float) (cell + 1));
        }
        for (int cell = 0; cell < 48; cell++) {
            Check.put(y, 255, cell);
        }
        Check.same("all at 255", y.meanSignal(), 255.0f);
        y.calibrate();
        Check.same("calibrated", Float.floatToIntBits(y.meanSignal()), 0);
    }
}
