import java.util.ArrayDeque;
import java.util.ArrayList;
import java.util.Arrays;
import java.util.Comparator;
import java.util.Deque;
import java.util.List;

/**
 * The document once more, written another way and without thrift: regions by filling, all matchings tried
 * one after the other, texts by a pattern. ModelTest compares its answers with the program's.
 */
final class Model {
    private static final int NONE = -1;
    private static final int[][] RANGES = {{1, 100}, {1, 48}, {1, 255}, {1, 1000}, {0, 5}};
    private static final String FORCE = "(25[0-5]|2[0-4][0-9]|1[0-9][0-9]|[1-9][0-9]|[1-9])";
    private static final String COMMAND = "(x|b|s|p[0-7][0-5]," + FORCE + ")";
    private static final String VALID = COMMAND + "(;" + COMMAND + ")*";
    private static final String[] ENDINGS = {"", "x", "00,1", "0,1", ",1", "1"};

    private static final class State {
        int[][] raw = new int[8][6];
        int[][] baseline = new int[8][6];
        int[] settings = {20, 12, 30, 250, 1};
        int[][] tracks = new int[6][];
        int frames;
        int downs;
        int ups;

        State copy() {
            State copy = new State();
            for (int row = 0; row < 8; row++) {
                copy.raw[row] = raw[row].clone();
                copy.baseline[row] = baseline[row].clone();
            }
            copy.settings = settings.clone();
            for (int track = 0; track < 6; track++) {
                copy.tracks[track] = tracks[track] == null ? null : tracks[track].clone();
            }
            copy.frames = frames;
            copy.downs = downs;
            copy.ups = ups;
            return copy;
        }
    }

    private State now = new State();
    private final Deque<State> saved = new ArrayDeque<>();
    private String text = "";

    private void save() {
        saved.addLast(now.copy());
        if (saved.size() == 7) {
            saved.removeFirst();
        }
    }

    private static void cell(int row, int column) {
        if (row < 0 || row > 7 || column < 0 || column > 5) {
            throw new IndexOutOfBoundsException();
        }
    }

    private static void index(int value, int end) {
        if (value < 0 || value >= end) {
            throw new IndexOutOfBoundsException();
        }
    }

    private static void notNegative(int value) {
        if (value < 0) {
            throw new IndexOutOfBoundsException();
        }
    }

    private static void argument(int value, int least, int greatest) {
        if (value < least || value > greatest) {
            throw new IllegalArgumentException();
        }
    }

    int setRaw(int row, int column, int value) {
        cell(row, column);
        argument(value, 0, 255);
        save();
        int before = now.raw[row][column];
        now.raw[row][column] = value;
        return before;
    }

    int press(int row, int column, int force) {
        cell(row, column);
        argument(force, 1, 255);
        save();
        doPress(row, column, force);
        return now.raw[row][column];
    }

    private void doPress(int row, int column, int force) {
        for (int r = 0; r < 8; r++) {
            for (int c = 0; c < 6; c++) {
                int rows = Math.abs(r - row);
                int columns = Math.abs(c - column);
                int more = 0;
                if (rows == 0 && columns == 0) {
                    more = force;
                } else if (rows + columns == 1) {
                    more = force / 2;
                } else if (rows == 1 && columns == 1) {
                    more = force / 4;
                }
                now.raw[r][c] = Math.min(255, now.raw[r][c] + more);
            }
        }
    }

    int release() {
        save();
        int changed = (int) Arrays.stream(now.raw).flatMapToInt(Arrays::stream).filter(v -> v != 0).count();
        now.raw = new int[8][6];
        return changed;
    }

    int calibrate() {
        save();
        return doCalibrate();
    }

    private int doCalibrate() {
        int changed = 0;
        for (int r = 0; r < 8; r++) {
            for (int c = 0; c < 6; c++) {
                changed += now.baseline[r][c] == now.raw[r][c] ? 0 : 1;
            }
            now.baseline[r] = now.raw[r].clone();
        }
        return changed;
    }

    int set(int setting, int value) {
        index(setting, 5);
        argument(value, RANGES[setting][0], RANGES[setting][1]);
        save();
        int before = now.settings[setting];
        now.settings[setting] = value;
        return before;
    }

    int scan() {
        save();
        return doScan();
    }

    private int doScan() {
        List<int[]> contacts = contactList();
        int[] matches = best(contacts);
        List<Integer> free = new ArrayList<>();
        int events = 0;
        for (int t = 0; t < 6; t++) {
            int[] track = now.tracks[t];
            if (track == null) {
                free.add(t);
            } else if (matches[t] < 6) {
                int[] contact = contacts.get(matches[t]);
                now.tracks[t] = new int[] {contact[0], contact[1], track[2] + 1, 0};
            } else if (++track[3] > now.settings[4]) {
                now.tracks[t] = null;
                now.ups++;
                events++;
            }
        }
        for (int c = 0; c < contacts.size(); c++) {
            int contact = c;
            if (Arrays.stream(matches).noneMatch(m -> m == contact) && !free.isEmpty()) {
                now.tracks[free.remove(0)] = new int[] {contacts.get(c)[0], contacts.get(c)[1], 0, 0};
                now.downs++;
                events++;
            }
        }
        now.frames++;
        return events;
    }

    int appendText(int character) {
        argument(character, 32, 126);
        if (text.length() == 80) {
            throw new IllegalStateException();
        }
        text += (char) character;
        return text.length();
    }

    int clearText() {
        int before = text.length();
        text = "";
        return before;
    }

    int errorPosition() {
        if (text.matches(VALID)) {
            return NONE;
        }
        for (int i = 0; i < text.length(); i++) {
            String begin = text.substring(0, i + 1);
            if (Arrays.stream(ENDINGS).noneMatch(end -> (begin + end).matches(VALID))) {
                return i;
            }
        }
        return text.length();
    }

    int runText() {
        if (!text.matches(VALID)) {
            throw new IllegalStateException();
        }
        save();
        int events = 0;
        for (String command : text.split(";")) {
            switch (command.charAt(0)) {
                case 'p' -> doPress(command.charAt(1) - '0', command.charAt(2) - '0',
                        Integer.parseInt(command.substring(4)));
                case 'x' -> now.raw = new int[8][6];
                case 'b' -> doCalibrate();
                default -> events += doScan();
            }
        }
        return events;
    }

    int undo() {
        if (saved.isEmpty()) {
            throw new IllegalStateException();
        }
        now = saved.removeLast();
        return saved.size();
    }

    int raw(int row, int column) {
        cell(row, column);
        return now.raw[row][column];
    }

    int signal(int row, int column) {
        cell(row, column);
        return Math.max(0, now.raw[row][column] - now.baseline[row][column]);
    }

    private boolean touched(int row, int column) {
        return signal(row, column) >= now.settings[0];
    }

    /** The cells of the region, marked; none if the cell is not touched. */
    private boolean[][] region(int row, int column) {
        boolean[][] cells = new boolean[8][6];
        fill(cells, row, column);
        return cells;
    }

    private void fill(boolean[][] cells, int row, int column) {
        if (row < 0 || row > 7 || column < 0 || column > 5 || cells[row][column] || !touched(row, column)) {
            return;
        }
        cells[row][column] = true;
        fill(cells, row - 1, column);
        fill(cells, row + 1, column);
        fill(cells, row, column - 1);
        fill(cells, row, column + 1);
    }

    int regionSize(int row, int column) {
        cell(row, column);
        int size = 0;
        for (boolean[] cells : region(row, column)) {
            for (boolean in : cells) {
                size += in ? 1 : 0;
            }
        }
        return size;
    }

    int regionKind(int row, int column) {
        cell(row, column);
        if (!touched(row, column)) {
            return NONE;
        }
        boolean[][] cells = region(row, column);
        int greatest = 0;
        for (int r = 0; r < 8; r++) {
            for (int c = 0; c < 6; c++) {
                greatest = cells[r][c] ? Math.max(greatest, signal(r, c)) : greatest;
            }
        }
        if (regionSize(row, column) > now.settings[1]) {
            return 1;
        }
        return greatest < now.settings[2] ? 2 : 0;
    }

    int regions(int kind) {
        argument(kind, 0, 2);
        int count = 0;
        boolean[][] seen = new boolean[8][6];
        for (int r = 0; r < 8; r++) {
            for (int c = 0; c < 6; c++) {
                if (!seen[r][c] && touched(r, c)) {
                    fill(seen, r, c);
                    count += regionKind(r, c) == kind ? 1 : 0;
                }
            }
        }
        return count;
    }

    int setting(int setting) {
        index(setting, 5);
        return now.settings[setting];
    }

    private List<int[]> contactList() {
        List<int[]> all = new ArrayList<>();
        for (int number = 0; number < 48; number++) {
            int[] candidate = candidate(number);
            if (candidate != null) {
                all.add(candidate);
            }
        }
        all.sort(Comparator.comparingInt((int[] c) -> -c[2]).thenComparingInt(c -> c[3]));
        List<int[]> kept = new ArrayList<>(all.subList(0, Math.min(6, all.size())));
        kept.sort(Comparator.comparingInt(c -> c[3]));
        return kept;
    }

    private int[] candidate(int number) {
        int row = number / 6;
        int column = number % 6;
        if (regionKind(row, column) != 0) {
            return null;
        }
        int own = signal(row, column);
        int mass = own;
        int rowSum = own * row;
        int columnSum = own * column;
        for (int other = 0; other < 48; other++) {
            int r = other / 6;
            int c = other % 6;
            if (other != number && Math.abs(r - row) <= 1 && Math.abs(c - column) <= 1) {
                int signal = signal(r, c);
                if (signal > own || other < number && signal == own) {
                    return null;
                }
                mass += signal;
                rowSum += signal * r;
                columnSum += signal * c;
            }
        }
        return new int[] {Math.floorDiv(100 * rowSum, mass), Math.floorDiv(100 * columnSum, mass), mass, number};
    }

    int contacts() {
        return contactList().size();
    }

    int contact(int contact, int part) {
        notNegative(contact);
        argument(part, 0, 3);
        List<int[]> list = contactList();
        return contact < list.size() ? list.get(contact)[part] : NONE;
    }

    boolean isDown(int track) {
        index(track, 6);
        return now.tracks[track] != null;
    }

    int track(int track, int part) {
        index(track, 6);
        argument(part, 0, 3);
        return now.tracks[track] == null ? NONE : now.tracks[track][part];
    }

    int squaredDistance(int track, int contact) {
        index(track, 6);
        notNegative(contact);
        List<int[]> list = contactList();
        return now.tracks[track] == null || contact >= list.size() ? NONE : way(now.tracks[track], list.get(contact));
    }

    private static int way(int[] track, int[] contact) {
        int rows = track[0] - contact[0];
        int columns = track[1] - contact[1];
        return rows * rows + columns * columns;
    }

    private int bestCost;
    private int[] bestMatches;

    /** The contact of each track, 6 for none or if the track is up. */
    private int[] best(List<int[]> contacts) {
        int[] matches = new int[6];
        Arrays.fill(matches, 6);
        bestCost = Integer.MAX_VALUE;
        tryAll(0, 0, matches, contacts);
        return bestMatches;
    }

    private void tryAll(int track, int cost, int[] matches, List<int[]> contacts) {
        int gate = now.settings[3] * now.settings[3];
        if (track == 6) {
            boolean first = cost == bestCost && Arrays.compare(matches, bestMatches) < 0;
            if (cost < bestCost || first) {
                bestCost = cost;
                bestMatches = matches.clone();
            }
            return;
        }
        // The last contact first: a matching that comes first must win by comparison, not by being tried first.
        matches[track] = 6;
        tryAll(track + 1, now.tracks[track] == null ? cost : cost + gate, matches, contacts);
        for (int c = contacts.size() - 1; c >= 0 && now.tracks[track] != null; c--) {
            int contact = c;
            int way = way(now.tracks[track], contacts.get(c));
            if (way <= gate && Arrays.stream(matches, 0, track).noneMatch(m -> m == contact)) {
                matches[track] = c;
                tryAll(track + 1, cost + way, matches, contacts);
            }
        }
        matches[track] = 6;
    }

    int match(int track) {
        index(track, 6);
        int contact = best(contactList())[track];
        return contact == 6 ? NONE : contact;
    }

    int matchingCost() {
        best(contactList());
        return bestCost;
    }

    int downIfScanned() {
        State before = now.copy();
        doScan();
        int set = 0;
        for (int t = 0; t < 6; t++) {
            set += now.tracks[t] == null ? 0 : 1 << t;
        }
        now = before;
        return set;
    }

    int frames() {
        return now.frames;
    }

    int downs() {
        return now.downs;
    }

    int ups() {
        return now.ups;
    }

    float meanSignal() {
        int sum = 0;
        int count = 0;
        for (int r = 0; r < 8; r++) {
            for (int c = 0; c < 6; c++) {
                sum += touched(r, c) ? signal(r, c) : 0;
                count += touched(r, c) ? 1 : 0;
            }
        }
        return count == 0 ? 0.0f : (float) sum / (float) count;
    }

    int savedStates() {
        return saved.size();
    }

    int textLength() {
        return text.length();
    }
}
