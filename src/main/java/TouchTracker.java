/** The tracker of a touch panel: signals, regions, contacts, and tracks that keep their numbers. */
public final class TouchTracker {
    public static final int NONE = -1;
    public static final int THRESHOLD = 0, PALM = 1, SHARP = 2, GATE = 3, GRACE = 4;
    public static final int FINGER = 0, PALM_REGION = 1, WATER = 2;

    private static final int ROWS = 8;
    private static final int COLUMNS = 6;
    private static final int CELLS = ROWS * COLUMNS;
    private static final int GREATEST_RAW = 255;
    private static final int SETTINGS = 5;
    private static final int[] LEAST_VALUES = {1, 1, 1, 1, 0};
    private static final int[] GREATEST_VALUES = {100, 48, 255, 1000, 5};
    private static final int[] FIRST_VALUES = {20, 12, 30, 250, 1};
    private static final int MOST_CONTACTS = 6;
    private static final int PARTS = 4;
    private static final int TRACKS = 6;

    private final State state;
    private final State rehearsal;
    private final History history;
    private final Regions regionMap;
    private final Contacts contactList;
    private final Matching matching;
    private final Text text;
    private final CommandReader reader;

    // Everything a call needs is made here, so that no call makes objects.
    public TouchTracker() {
        state = new State();
        rehearsal = new State();
        history = new History();
        regionMap = new Regions();
        contactList = new Contacts();
        matching = new Matching();
        text = new Text();
        reader = new CommandReader();
    }

    // ---- the panel

    public int setRaw(int row, int column, int value) throws IndexOutOfBoundsException, IllegalArgumentException {
        requireCell(row, column);
        if (value < 0 || value > GREATEST_RAW) {
            throw new IllegalArgumentException("a raw value is from 0 to 255");
        }
        history.save(state);
        return state.panel.replaceRaw(cellAt(row, column), value);
    }

    public int press(int row, int column, int force) throws IndexOutOfBoundsException, IllegalArgumentException {
        requireCell(row, column);
        if (force < 1 || force > GREATEST_RAW) {
            throw new IllegalArgumentException("a force is from 1 to 255");
        }
        history.save(state);
        state.panel.pressAt(row, column, force);
        return state.panel.rawOf(cellAt(row, column));
    }

    public int release() {
        history.save(state);
        return state.panel.clearRaw();
    }

    public int calibrate() {
        history.save(state);
        return state.panel.takeBaselines();
    }

    public int set(int setting, int value) throws IndexOutOfBoundsException, IllegalArgumentException {
        requireSetting(setting);
        if (value < LEAST_VALUES[setting] || value > GREATEST_VALUES[setting]) {
            throw new IllegalArgumentException("the value is out of range for the setting");
        }
        history.save(state);
        int previous = state.settings[setting];
        state.settings[setting] = value;
        return previous;
    }

    public int scan() {
        history.save(state);
        return scanFrame(state);
    }

    // ---- texts

    public int appendText(int character) throws IllegalArgumentException, IllegalStateException {
        if (character < 32 || character > 126) {
            throw new IllegalArgumentException("a character code is from 32 to 126");
        }
        if (text.isFull()) {
            throw new IllegalStateException("the text is full");
        }
        text.append(character);
        return text.length;
    }

    public int clearText() {
        int before = text.length;
        text.empty();
        return before;
    }

    public int errorPosition() {
        return findError();
    }

    public int runText() throws IllegalStateException {
        if (findError() != NONE) {
            throw new IllegalStateException("the text is not valid");
        }
        history.save(state);
        int events = 0;
        reader.begin();
        for (int i = 0; i < text.length; i++) {
            int character = text.at(i);
            if (character == ';') {
                events += runCommand();
            }
            reader.accepts(character);
        }
        return events + runCommand();
    }

    // ---- undo

    public int undo() throws IllegalStateException {
        if (history.count == 0) {
            throw new IllegalStateException("there is no saved state");
        }
        history.restore(state);
        return history.count;
    }

    // ---- queries about the panel

    public int raw(int row, int column) throws IndexOutOfBoundsException {
        requireCell(row, column);
        return state.panel.rawOf(cellAt(row, column));
    }

    public int signal(int row, int column) throws IndexOutOfBoundsException {
        requireCell(row, column);
        return state.panel.signalOf(cellAt(row, column));
    }

    public int regionSize(int row, int column) throws IndexOutOfBoundsException {
        requireCell(row, column);
        regionMap.find(state);
        return regionMap.sizeAround(cellAt(row, column));
    }

    public int regionKind(int row, int column) throws IndexOutOfBoundsException {
        requireCell(row, column);
        regionMap.find(state);
        return regionMap.kindAround(cellAt(row, column));
    }

    public int regions(int kind) throws IllegalArgumentException {
        if (kind < FINGER || kind > WATER) {
            throw new IllegalArgumentException("there is no such kind");
        }
        regionMap.find(state);
        return regionMap.countOf(kind);
    }

    public int setting(int setting) throws IndexOutOfBoundsException {
        requireSetting(setting);
        return state.settings[setting];
    }

    // ---- queries about contacts, as they are now

    public int contacts() {
        findContacts();
        return contactList.count;
    }

    public int contact(int contact, int part) throws IndexOutOfBoundsException, IllegalArgumentException {
        requireContactNumber(contact);
        requirePart(part);
        findContacts();
        return contactList.partOf(contact, part);
    }

    // ---- queries about tracks

    public boolean isDown(int track) throws IndexOutOfBoundsException {
        requireTrack(track);
        return state.tracks[track].down;
    }

    public int track(int track, int part) throws IndexOutOfBoundsException, IllegalArgumentException {
        requireTrack(track);
        requirePart(part);
        return state.tracks[track].partOf(part);
    }

    public int squaredDistance(int track, int contact) throws IndexOutOfBoundsException {
        requireTrack(track);
        requireContactNumber(contact);
        findContacts();
        if (!state.tracks[track].down || contact >= contactList.count) {
            return NONE;
        }
        return state.tracks[track].squaredWayTo(contactList.rowOf(contact), contactList.columnOf(contact));
    }

    // ---- queries about the next frame, if it was scanned now

    public int match(int track) throws IndexOutOfBoundsException {
        requireTrack(track);
        findMatching();
        return matching.contactOf(track);
    }

    public int matchingCost() {
        findMatching();
        return matching.wholeCost();
    }

    public int downIfScanned() {
        rehearsal.copyFrom(state);
        scanFrame(rehearsal);
        return rehearsal.downSet();
    }

    // ---- counts

    public int frames() {
        return state.frameCount;
    }

    public int downs() {
        return state.downCount;
    }

    public int ups() {
        return state.upCount;
    }

    public float meanSignal() {
        int sum = 0;
        int touched = 0;
        for (int cell = 0; cell < CELLS; cell++) {
            int signal = state.panel.signalOf(cell);
            if (signal >= state.settings[THRESHOLD]) {
                sum += signal;
                touched++;
            }
        }
        return touched > 0 ? (float) sum / (float) touched : 0.0f;
    }

    public int savedStates() {
        return history.count;
    }

    public int textLength() {
        return text.length;
    }

    // ---- the checks of arguments

    private static void requireCell(int row, int column) {
        if (!isOnPanel(row, column)) {
            throw new IndexOutOfBoundsException("there is no such row or column");
        }
    }

    private static void requireSetting(int setting) {
        if (setting < 0 || setting >= SETTINGS) {
            throw new IndexOutOfBoundsException("there is no such setting");
        }
    }

    private static void requireTrack(int track) {
        if (track < 0 || track >= TRACKS) {
            throw new IndexOutOfBoundsException("there is no such track");
        }
    }

    private static void requireContactNumber(int contact) {
        if (contact < 0) {
            throw new IndexOutOfBoundsException("the number of a contact is not negative");
        }
    }

    private static void requirePart(int part) {
        if (part < 0 || part >= PARTS) {
            throw new IllegalArgumentException("a part is from 0 to 3");
        }
    }

    private static boolean isOnPanel(int row, int column) {
        return row >= 0 && row < ROWS && column >= 0 && column < COLUMNS;
    }

    private static boolean isCell(int cell) {
        return cell >= 0 && cell < CELLS;
    }

    private static int cellAt(int row, int column) {
        return COLUMNS * row + column;
    }

    // ---- what the calls share

    private void findContacts() {
        regionMap.find(state);
        contactList.find(state.panel, regionMap);
    }

    private void findMatching() {
        findContacts();
        matching.find(state, contactList);
    }

    private int scanFrame(State scanned) {
        regionMap.find(scanned);
        contactList.find(scanned.panel, regionMap);
        matching.find(scanned, contactList);
        return scanned.takeFrame(contactList, matching);
    }

    private int findError() {
        reader.begin();
        for (int i = 0; i < text.length; i++) {
            if (!reader.accepts(text.at(i))) {
                return i;
            }
        }
        return reader.isComplete() ? NONE : text.length;
    }

    /** Runs the command that was read last; returns its events. */
    private int runCommand() {
        switch (reader.command) {
            case 'p':
                state.panel.pressAt(reader.row, reader.column, reader.force);
                return 0;
            case 'x':
                state.panel.clearRaw();
                return 0;
            case 'b':
                state.panel.takeBaselines();
                return 0;
            default:
                return scanFrame(state);
        }
    }

    /** The raw values and the baselines. */
    private static final class Panel {
        private final int[] raws = new int[CELLS];
        private final int[] baselines = new int[CELLS];

        int rawOf(int cell) {
            return isCell(cell) ? raws[cell] : 0;
        }

        int signalOf(int cell) {
            int difference = cell >= 0 && cell < CELLS ? raws[cell] - baselines[cell] : 0;
            return difference > 0 ? difference : 0;
        }

        /** The signal of the cell, or 0 beside the panel: there it can neither outdo a touched cell nor weigh. */
        int signalAt(int row, int column) {
            return isOnPanel(row, column) ? signalOf(cellAt(row, column)) : 0;
        }

        int replaceRaw(int cell, int value) {
            if (!isCell(cell)) {
                return 0;
            }
            int previous = raws[cell];
            raws[cell] = value;
            return previous;
        }

        void pressAt(int row, int column, int force) {
            for (int down = -1; down <= 1; down++) {
                for (int right = -1; right <= 1; right++) {
                    // A shift halves and rounds down once for each step away: 0, 1 at a side, 2 at a corner.
                    raise(row + down, column + right, force >> (down * down + right * right));
                }
            }
        }

        private void raise(int row, int column, int amount) {
            if (isOnPanel(row, column)) {
                int cell = cellAt(row, column);
                int raised = raws[cell] + amount;
                raws[cell] = raised < GREATEST_RAW ? raised : GREATEST_RAW;
            }
        }

        int clearRaw() {
            int changed = 0;
            for (int cell = 0; cell < CELLS; cell++) {
                if (raws[cell] != 0) {
                    changed++;
                }
                raws[cell] = 0;
            }
            return changed;
        }

        int takeBaselines() {
            int changed = 0;
            for (int cell = 0; cell < CELLS; cell++) {
                if (baselines[cell] != raws[cell]) {
                    changed++;
                }
                baselines[cell] = raws[cell];
            }
            return changed;
        }

        void copyFrom(Panel other) {
            System.arraycopy(other.raws, 0, raws, 0, CELLS);
            System.arraycopy(other.baselines, 0, baselines, 0, CELLS);
        }
    }

    /** One track, up or down. */
    private static final class Track {
        private boolean down;
        private int row;
        private int column;
        private int age;
        private int missed;

        void goDown(int newRow, int newColumn) {
            down = true;
            row = newRow;
            column = newColumn;
            age = 0;
            missed = 0;
        }

        void follow(int newRow, int newColumn) {
            row = newRow;
            column = newColumn;
            age++;
            missed = 0;
        }

        void miss(int grace) {
            missed++;
            down = missed <= grace;
        }

        int partOf(int part) {
            if (!down) {
                return NONE;
            }
            switch (part) {
                case 0:
                    return row;
                case 1:
                    return column;
                case 2:
                    return age;
                default:
                    return missed;
            }
        }

        int squaredWayTo(int otherRow, int otherColumn) {
            int rows = row - otherRow;
            int columns = column - otherColumn;
            return rows * rows + columns * columns;
        }

        void copyFrom(Track other) {
            down = other.down;
            row = other.row;
            column = other.column;
            age = other.age;
            missed = other.missed;
        }
    }

    /** All that undo restores. */
    private static final class State {
        private final Panel panel = new Panel();
        private final int[] settings = new int[SETTINGS];
        private final Track[] tracks = new Track[TRACKS];
        private int frameCount;
        private int downCount;
        private int upCount;

        State() {
            System.arraycopy(FIRST_VALUES, 0, settings, 0, SETTINGS);
            for (int track = 0; track < TRACKS; track++) {
                tracks[track] = new Track();
            }
        }

        void copyFrom(State other) {
            panel.copyFrom(other.panel);
            System.arraycopy(other.settings, 0, settings, 0, SETTINGS);
            for (int track = 0; track < TRACKS; track++) {
                tracks[track].copyFrom(other.tracks[track]);
            }
            frameCount = other.frameCount;
            downCount = other.downCount;
            upCount = other.upCount;
        }

        int downSet() {
            int set = 0;
            for (int track = 0; track < TRACKS; track++) {
                if (tracks[track].down) {
                    set |= 1 << track;
                }
            }
            return set;
        }

        /** Steps b to d of a frame; returns its events. */
        int takeFrame(Contacts contacts, Matching matching) {
            int eventsBefore = downCount + upCount;
            // A track that goes up in this frame may not be given a contact in it.
            int downBefore = downSet();
            frameCount++;
            moveTracks(contacts, matching);
            startTracks(contacts, matching, downBefore);
            return downCount + upCount - eventsBefore;
        }

        private void moveTracks(Contacts contacts, Matching matching) {
            for (int number = 0; number < TRACKS; number++) {
                Track track = tracks[number];
                int contact = matching.contactOf(number);
                if (contact != NONE) {
                    track.follow(contacts.rowOf(contact), contacts.columnOf(contact));
                } else if (track.down) {
                    track.miss(settings[GRACE]);
                    upCount += track.down ? 0 : 1;
                }
            }
        }

        private void startTracks(Contacts contacts, Matching matching, int downBefore) {
            int contact = 0;
            for (int number = 0; number < TRACKS; number++) {
                if ((downBefore & (1 << number)) == 0) {
                    contact = matching.nextUnassigned(contact);
                    if (contact < contacts.count) {
                        tracks[number].goDown(contacts.rowOf(contact), contacts.columnOf(contact));
                        downCount++;
                        contact++;
                    }
                }
            }
        }
    }

    /** The saved states, the oldest first. */
    private static final class History {
        private static final int MOST = 6;
        private final State[] saved = new State[MOST];
        private int count;

        History() {
            for (int i = 0; i < MOST; i++) {
                saved[i] = new State();
            }
        }

        void save(State state) {
            if (count >= MOST) {
                dropOldest();
            }
            saved[count].copyFrom(state);
            count++;
        }

        private void dropOldest() {
            State oldest = saved[0];
            for (int i = 1; i < MOST; i++) {
                saved[i - 1] = saved[i];
            }
            saved[MOST - 1] = oldest;
            count = MOST - 1;
        }

        void restore(State state) {
            if (count > 0) {
                count--;
                state.copyFrom(saved[count]);
            }
        }
    }

    /** The regions of a panel; each is known by the lowest number of its cells. */
    private static final class Regions {
        // Higher than each cell's number, so that the lower of two is always a region.
        private static final int UNTOUCHED = CELLS;
        private final int[] regionOf = new int[CELLS];
        private final int[] sizes = new int[CELLS];
        private final int[] greatest = new int[CELLS];
        private int palm;
        private int sharp;

        void find(State state) {
            palm = state.settings[PALM];
            sharp = state.settings[SHARP];
            for (int cell = 0; cell < CELLS; cell++) {
                boolean touched = state.panel.signalOf(cell) >= state.settings[THRESHOLD];
                regionOf[cell] = touched ? cell : UNTOUCHED;
            }
            boolean changed = true;
            for (int pass = 0; changed && pass < CELLS; pass++) {
                changed = joinAll();
            }
            measure(state.panel);
        }

        private boolean joinAll() {
            boolean changed = false;
            for (int cell = 0; cell < CELLS; cell++) {
                if (cell % COLUMNS < COLUMNS - 1 && join(cell, cell + 1)) {
                    changed = true;
                }
                if (cell < CELLS - COLUMNS && join(cell, cell + COLUMNS)) {
                    changed = true;
                }
            }
            return changed;
        }

        private boolean join(int cell, int other) {
            if (!isCell(cell) || !isCell(other)) {
                return false;
            }
            int one = regionOf[cell];
            int two = regionOf[other];
            if (one == two || one == UNTOUCHED || two == UNTOUCHED) {
                return false;
            }
            regionOf[cell] = one < two ? one : two;
            regionOf[other] = regionOf[cell];
            return true;
        }

        private void measure(Panel panel) {
            for (int cell = 0; cell < CELLS; cell++) {
                sizes[cell] = 0;
                greatest[cell] = 0;
            }
            for (int cell = 0; cell < CELLS; cell++) {
                int region = regionOf[cell];
                if (isCell(region)) {
                    int signal = panel.signalOf(cell);
                    sizes[region]++;
                    greatest[region] = signal > greatest[region] ? signal : greatest[region];
                }
            }
        }

        int sizeAround(int cell) {
            int region = isCell(cell) ? regionOf[cell] : UNTOUCHED;
            return isCell(region) ? sizes[region] : 0;
        }

        int kindAround(int cell) {
            int region = isCell(cell) ? regionOf[cell] : UNTOUCHED;
            if (!isCell(region)) {
                return NONE;
            }
            if (sizes[region] > palm) {
                return PALM_REGION;
            }
            return greatest[region] < sharp ? WATER : FINGER;
        }

        int countOf(int kind) {
            int count = 0;
            for (int cell = 0; cell < CELLS; cell++) {
                if (regionOf[cell] == cell && kindAround(cell) == kind) {
                    count++;
                }
            }
            return count;
        }
    }

    /** The contacts of a panel, in ascending order of their peaks. */
    private static final class Contacts {
        // The mass of the candidate whose peak the cell is; 0 if it is none.
        private final int[] candidates = new int[CELLS];
        private final int[] rows = new int[MOST_CONTACTS];
        private final int[] columns = new int[MOST_CONTACTS];
        private final int[] masses = new int[MOST_CONTACTS];
        private final int[] peaks = new int[MOST_CONTACTS];
        private int count;

        void find(Panel panel, Regions regions) {
            for (int cell = 0; cell < CELLS; cell++) {
                boolean peak = regions.kindAround(cell) == FINGER && isPeak(panel, cell);
                candidates[cell] = peak ? massAround(panel, cell) : 0;
            }
            count = 0;
            for (int cell = 0; cell < CELLS; cell++) {
                if (candidates[cell] > 0 && heavierThan(cell) < MOST_CONTACTS) {
                    add(panel, cell);
                }
            }
        }

        private static boolean isPeak(Panel panel, int cell) {
            int own = panel.signalOf(cell);
            for (int down = -1; down <= 1; down++) {
                for (int right = -1; right <= 1; right++) {
                    int other = panel.signalAt(cell / COLUMNS + down, cell % COLUMNS + right);
                    boolean earlier = cellAt(down, right) < 0;
                    if (other > own || (other == own && earlier)) {
                        return false;
                    }
                }
            }
            return true;
        }

        private static int massAround(Panel panel, int cell) {
            int mass = 0;
            for (int down = -1; down <= 1; down++) {
                for (int right = -1; right <= 1; right++) {
                    mass += panel.signalAt(cell / COLUMNS + down, cell % COLUMNS + right);
                }
            }
            return mass;
        }

        /** The number of candidates that come before the one of the cell. */
        private int heavierThan(int cell) {
            int own = isCell(cell) ? candidates[cell] : 0;
            int heavier = 0;
            for (int other = 0; other < CELLS; other++) {
                if (candidates[other] > own || (candidates[other] == own && other < cell)) {
                    heavier++;
                }
            }
            return heavier;
        }

        private void add(Panel panel, int cell) {
            int mass = isCell(cell) ? candidates[cell] : 0;
            if (mass <= 0 || count >= MOST_CONTACTS) {
                return;
            }
            int rowSum = 0;
            int columnSum = 0;
            for (int down = -1; down <= 1; down++) {
                for (int right = -1; right <= 1; right++) {
                    int row = cell / COLUMNS + down;
                    int column = cell % COLUMNS + right;
                    int signal = panel.signalAt(row, column);
                    rowSum += signal * row;
                    columnSum += signal * column;
                }
            }
            rows[count] = 100 * rowSum / mass;
            columns[count] = 100 * columnSum / mass;
            masses[count] = mass;
            peaks[count] = cell;
            count++;
        }

        private boolean isContact(int contact) {
            return contact >= 0 && contact < count && contact < MOST_CONTACTS;
        }

        int rowOf(int contact) {
            return isContact(contact) ? rows[contact] : NONE;
        }

        int columnOf(int contact) {
            return isContact(contact) ? columns[contact] : NONE;
        }

        int partOf(int contact, int part) {
            if (!isContact(contact)) {
                return NONE;
            }
            switch (part) {
                case 0:
                    return rows[contact];
                case 1:
                    return columns[contact];
                case 2:
                    return masses[contact];
                default:
                    return peaks[contact];
            }
        }
    }

    /** The best matching of the tracks of a state with contacts. */
    private static final class Matching {
        private static final int SETS = 1 << MOST_CONTACTS;
        // The cost of a pair; NONE if the track and the contact cannot be matched.
        private final int[][] pairCosts = new int[TRACKS][MOST_CONTACTS];
        private final int[] noneCosts = new int[TRACKS];
        // The least cost of the tracks from one on, if the contacts of a set are taken; 0 behind the last track.
        private final int[][] leastCosts = new int[TRACKS + 1][SETS];
        private final int[] assigned = new int[TRACKS];
        private int taken;
        private int count;

        void find(State state, Contacts contacts) {
            count = contacts.count < MOST_CONTACTS ? contacts.count : MOST_CONTACTS;
            int limit = state.settings[GATE] * state.settings[GATE];
            for (int track = 0; track < TRACKS; track++) {
                noneCosts[track] = state.tracks[track].down ? limit : 0;
                for (int contact = 0; contact < count; contact++) {
                    pairCosts[track][contact] = pairCost(state.tracks[track], contacts, contact, limit);
                }
            }
            int sets = 1 << count;
            for (int track = TRACKS - 1; track >= 0; track--) {
                for (int set = 0; set < sets; set++) {
                    leastCosts[track][set] = leastCost(track, set);
                }
            }
            assign();
        }

        private static int pairCost(Track track, Contacts contacts, int contact, int limit) {
            if (!track.down) {
                return NONE;
            }
            int way = track.squaredWayTo(contacts.rowOf(contact), contacts.columnOf(contact));
            return way <= limit ? way : NONE;
        }

        private int leastCost(int track, int set) {
            int least = noneCosts[track] + leastCosts[track + 1][set];
            for (int contact = 0; contact < count; contact++) {
                if (canTake(track, contact, set)) {
                    int cost = costWith(track, contact, set);
                    least = cost < least ? cost : least;
                }
            }
            return least;
        }

        private boolean canTake(int track, int contact, int set) {
            return pairCosts[track][contact] != NONE && (set & (1 << contact)) == 0;
        }

        private int costWith(int track, int contact, int set) {
            return pairCosts[track][contact] + leastCosts[track + 1][set | (1 << contact)];
        }

        private void assign() {
            taken = 0;
            for (int track = 0; track < TRACKS; track++) {
                assigned[track] = firstBest(track, taken);
                if (assigned[track] != NONE) {
                    taken |= 1 << assigned[track];
                }
            }
        }

        // Going through the tracks and the contacts in ascending order finds the matching that comes first.
        private int firstBest(int track, int set) {
            for (int contact = 0; contact < count; contact++) {
                if (canTake(track, contact, set) && costWith(track, contact, set) == leastCosts[track][set]) {
                    return contact;
                }
            }
            return NONE;
        }

        int contactOf(int track) {
            return track >= 0 && track < TRACKS ? assigned[track] : NONE;
        }

        int wholeCost() {
            return leastCosts[0][0];
        }

        /** The first contact from one on that no track is assigned; the number of contacts if there is none. */
        int nextUnassigned(int from) {
            for (int contact = from; contact < count; contact++) {
                if ((taken & (1 << contact)) == 0) {
                    return contact;
                }
            }
            return count;
        }
    }

    /** The text buffer. */
    private static final class Text {
        private static final int MOST = 80;
        private final char[] characters = new char[MOST];
        private int length;

        boolean isFull() {
            return length >= MOST;
        }

        void append(int character) {
            if (length >= 0 && length < MOST) {
                characters[length] = (char) character;
                length++;
            }
        }

        void empty() {
            length = 0;
        }

        int at(int index) {
            return index >= 0 && index < MOST ? characters[index] : 0;
        }
    }

    /** Reads a text character by character, and knows the parts of the command that it read last. */
    private static final class CommandReader {
        private static final int AT_COMMAND = 0;
        private static final int AT_ROW = 1;
        private static final int AT_COLUMN = 2;
        private static final int AT_COMMA = 3;
        private static final int AT_FORCE = 4;
        private static final int IN_FORCE = 5;
        private static final int BEHIND_COMMAND = 6;
        private int place;
        private int command;
        private int row;
        private int column;
        private int force;

        void begin() {
            place = AT_COMMAND;
        }

        boolean isComplete() {
            return place == IN_FORCE || place == BEHIND_COMMAND;
        }

        /** Takes the character; false if no valid text goes on with it. */
        boolean accepts(int character) {
            switch (place) {
                case AT_COMMAND:
                    return acceptsCommand(character);
                case AT_ROW:
                    row = character - '0';
                    place = AT_COLUMN;
                    return row >= 0 && row < ROWS;
                case AT_COLUMN:
                    column = character - '0';
                    place = AT_COMMA;
                    return column >= 0 && column < COLUMNS;
                case AT_COMMA:
                    place = AT_FORCE;
                    return character == ',';
                case AT_FORCE:
                    force = character - '0';
                    place = IN_FORCE;
                    return force >= 1 && force <= 9;
                default:
                    return acceptsBehind(character);
            }
        }

        private boolean acceptsCommand(int character) {
            command = character;
            place = character == 'p' ? AT_ROW : BEHIND_COMMAND;
            return character == 'p' || character == 'x' || character == 'b' || character == 's';
        }

        private boolean acceptsBehind(int character) {
            if (character == ';') {
                place = AT_COMMAND;
                return true;
            }
            if (place != IN_FORCE || character < '0' || character > '9') {
                return false;
            }
            force = 10 * force + character - '0';
            return force <= GREATEST_RAW;
        }
    }
}
