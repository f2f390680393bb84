/** Long runs of calls, drawn from a fixed row of numbers, with the answers that Model gives. */
final class ModelTest {
    private static final int RUNS = 2500;
    /** An object is for 512 calls, and a piece of text is typed to its end. */
    private static final int CALLS = 500;
    private static final int THROWN = 1 << 28;
    private static final String[] PIECES = {"s", "x", "b", ";", "p", "0", "3", "5", "7", ",", "1", "25", "6", "9",
        "s;", "x;", "b;", "p33,99;", "p00,120;", "p75,200;", "p14,80", ";s", ";s;", "p50,255", "p", "p2", "p41,"};
    private static final int[] ODD = {-1, 8, 6, 5, 4, 256, 255, 0, Integer.MIN_VALUE, Integer.MAX_VALUE};

    private long row;
    private final TouchTracker tracker = new TouchTracker();
    private final Model model = new Model();
    private final StringBuilder told = new StringBuilder();
    private int calls;
    private boolean differs;

    private ModelTest(int run) {
        row = 7919L * run + 1;
    }

    public static void main(String[] args) {
        for (int run = 0; run < RUNS; run++) {
            ModelTest test = new ModelTest(run);
            test.run(run % 5);
            test.endRun(run);
        }
        for (int run = RUNS; run < RUNS + 200; run++) {
            ModelTest test = new ModelTest(run);
            if (run % 2 == 0) {
                test.runCrowd();
            } else {
                test.runTexts();
            }
            test.endRun(run);
        }
        Check.end();
    }

    private void endRun(int run) {
        if (differs) {
            Check.yes("run " + run + " is as due:\n" + told, false);
            Check.end();
        }
    }

    private int draw(int bound) {
        row = row * 6364136223846793005L + 1442695040888963407L;
        return (int) ((row >>> 33) % bound);
    }

    /** Mostly a number from 0 on, now and then an odd one. */
    private int pick(int bound) {
        return draw(40) == 0 ? ODD[draw(ODD.length)] : draw(bound);
    }

    private void run(int kind) {
        if (kind == 3) {
            call(4, TouchTracker.GATE, 1000, 0);
            call(4, TouchTracker.PALM, 48, 0);
        }
        if (kind == 4) {
            call(4, TouchTracker.GRACE, 5, 0);
            call(4, TouchTracker.SHARP, 1, 0);
            call(4, TouchTracker.THRESHOLD, 1, 0);
        }
        while (calls < CALLS && !differs) {
            step(kind);
        }
    }

    /** Frames with many contacts on whole rows and columns, so that many matchings cost the same. */
    private void runCrowd() {
        call(4, TouchTracker.GATE, 150 + draw(10) * 50, 0);
        for (int frame = 0; frame < 20 && !differs; frame++) {
            call(2, 0, 0, 0);
            for (int i = draw(8); i >= 0; i--) {
                call(0, draw(4) * 2 + draw(2), draw(3) * 2 + frame % 2, 50);
            }
            for (int track = 0; track < 6; track++) {
                call(19, track, 0, 0);
            }
            call(21, 0, 0, 0);
            call(23, 0, 0, 0);
            call(5, 0, 0, 0);
            call(17, draw(6), draw(4), 0);
        }
    }

    /** Valid texts, and some in which one character is another one. */
    private void runTexts() {
        while (calls < CALLS - 90 && !differs) {
            String text = text();
            int odd = draw(3) == 0 ? draw(text.length()) : -1;
            for (int i = 0; i < text.length(); i++) {
                call(32, i == odd ? 32 + draw(95) : text.charAt(i), 0, 0);
            }
            call(30, 0, 0, 0);
            call(33, 0, 0, 0);
            call(30, 0, 0, 0);
            call(23, 0, 0, 0);
            call(28, 0, 0, 0);
            call(17, draw(6), draw(4), 0);
            call(31, 0, 0, 0);
        }
    }

    private String text() {
        StringBuilder text = new StringBuilder();
        int commands = 1 + draw(9);
        for (int i = 0; i < commands; i++) {
            if (i > 0) {
                text.append(';');
            }
            if (draw(2) == 0) {
                text.append('p').append(draw(8)).append(draw(6)).append(',').append(1 + draw(255));
            } else {
                text.append("sssxb".charAt(draw(5)));
            }
        }
        return text.toString();
    }

    private void step(int kind) {
        int way = draw(100);
        if (way < 45) {
            change(kind);
        } else if (way < 55) {
            type();
        } else {
            call(7 + draw(24), pick(8), pick(6), 0);
        }
    }

    private void change(int kind) {
        int way = draw(kind == 2 ? 60 : 40);
        if (way < 8) {
            call(0, pick(8), pick(6), kind == 1 ? 50 : pick(256));
        } else if (way < 20) {
            call(1, pick(8), pick(6), kind == 1 ? 100 : pick(256));
        } else if (way < 23) {
            call(2, 0, 0, 0);
        } else if (way < 24) {
            call(3, 0, 0, 0);
        } else if (way < 26) {
            int setting = pick(5);
            int[] bounds = {101, 49, 256, 1001, 6};
            call(4, setting, pick(bounds[Math.floorMod(setting, 5)]), 0);
        } else if (way < 36) {
            call(5, 0, 0, 0);
        } else if (way < 38) {
            call(6, 0, 0, 0);
        } else {
            call(0, draw(4) * 2, draw(3) * 2, 40 + draw(3));
        }
    }

    private void type() {
        int way = draw(12);
        if (way == 0) {
            call(31, 0, 0, 0);
        } else if (way == 1) {
            call(32, pick(128), 0, 0);
        } else if (way < 4) {
            call(33, 0, 0, 0);
        } else {
            String piece = PIECES[draw(PIECES.length)];
            for (int i = 0; i < piece.length(); i++) {
                call(32, piece.charAt(i), 0, 0);
            }
        }
    }

    private void call(int number, int a, int b, int c) {
        calls++;
        long got = answer(number, a, b, c, false);
        long want = answer(number, a, b, c, true);
        told.append(number).append('(').append(a).append(", ").append(b).append(", ").append(c).append(") ");
        told.append(got).append('\n');
        if (got != want && !differs) {
            differs = true;
            told.append("due is ").append(want).append('\n');
        }
    }

    private long answer(int number, int a, int b, int c, boolean due) {
        try {
            return number < 16 ? firstCalls(number, a, b, c, due) : lastCalls(number, a, b, due);
        } catch (IndexOutOfBoundsException e) {
            return e.getClass() == IndexOutOfBoundsException.class ? THROWN + 1 : THROWN + 4;
        } catch (IllegalArgumentException e) {
            return THROWN + 2;
        } catch (IllegalStateException e) {
            return THROWN + 3;
        }
    }

    private long firstCalls(int number, int a, int b, int c, boolean due) {
        switch (number) {
            case 0: return due ? model.setRaw(a, b, c) : tracker.setRaw(a, b, c);
            case 1: return due ? model.press(a, b, c) : tracker.press(a, b, c);
            case 2: return due ? model.release() : tracker.release();
            case 3: return due ? model.calibrate() : tracker.calibrate();
            case 4: return due ? model.set(a, b) : tracker.set(a, b);
            case 5: return due ? model.scan() : tracker.scan();
            case 6: return due ? model.undo() : tracker.undo();
            case 7: return due ? model.raw(a, b) : tracker.raw(a, b);
            case 8: return due ? model.signal(a, b) : tracker.signal(a, b);
            case 9: return due ? model.regionSize(a, b) : tracker.regionSize(a, b);
            case 10: return due ? model.regionKind(a, b) : tracker.regionKind(a, b);
            case 11: return due ? model.regions(a / 2) : tracker.regions(a / 2);
            case 12: return due ? model.setting(a) : tracker.setting(a);
            case 13: return due ? model.contacts() : tracker.contacts();
            default: return due ? model.contact(a, b) : tracker.contact(a, b);
        }
    }

    private long lastCalls(int number, int a, int b, boolean due) {
        switch (number) {
            case 16: return (due ? model.isDown(a) : tracker.isDown(a)) ? 1 : 0;
            case 17: return due ? model.track(a, b) : tracker.track(a, b);
            case 18: return due ? model.squaredDistance(a, b) : tracker.squaredDistance(a, b);
            case 19: case 20: return due ? model.match(a) : tracker.match(a);
            case 21: case 22: return due ? model.matchingCost() : tracker.matchingCost();
            case 23: return due ? model.downIfScanned() : tracker.downIfScanned();
            case 24: return due ? model.frames() : tracker.frames();
            case 25: return due ? model.downs() : tracker.downs();
            case 26: return due ? model.ups() : tracker.ups();
            case 27: return Float.floatToIntBits(due ? model.meanSignal() : tracker.meanSignal());
            case 28: return due ? model.savedStates() : tracker.savedStates();
            case 29: return due ? model.textLength() : tracker.textLength();
            case 30: return due ? model.errorPosition() : tracker.errorPosition();
            case 31: return due ? model.clearText() : tracker.clearText();
            case 32: return due ? model.appendText(a) : tracker.appendText(a);
            default: return due ? model.runText() : tracker.runText();
        }
    }
}
