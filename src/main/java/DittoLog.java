import java.util.Arrays;

/** A ship's logbook with ditto marks and corrections; ../shared/DOC.md says what each call answers. */
public final class DittoLog {
    public static final int UNKNOWN = -1;
    public static final int BAD_VALUE = -2;
    public static final int FULL = -3;
    public static final int NOT_POSSIBLE = -4;
    public static final int NONE = -5;
    public static final int DITTO = -6;

    private static final int MAX_ROWS = 48;
    private static final int MAX_ENTRIES = 4;
    private static final int MAX_WATCHES = 24;
    private static final int MAX_SUM = 9999;
    private static final int MAX_TEXT = 60;
    private static final int MAX_HISTORY = 4;

    private static final int COLUMNS = 4;
    private static final int COURSE = 0;
    private static final int SPEED = 1;
    private static final int WIND = 2;
    private static final int KEEPER = 3;
    private static final int[] COLUMN_MAX = {7, 199, 12, 9};
    private static final int NUMBERS = 200;

    private static final int SETTINGS = 3;
    private static final int PAGE_ROWS = 0;
    private static final int STOPS_AT_PAGES = 1;
    private static final int WATCH_ROWS = 2;
    private static final int[] SETTING_MIN = {4, 0, 2};
    private static final int[] SETTING_MAX = {12, 1, 6};

    /** Keeps the answers about sums above the constants of the errors. */
    private static final int SUM_OFFSET = 10000;
    private static final int FAULT_OFFSET = -100;
    private static final int NO_FAULT = -1;

    /** What a cell of the text is before its first sign; no entry has this number. */
    private static final int UNREAD = -7;
    private static final int REFUSED = -8;

    /** The way east of a course is the way north of the one two less, which is six more round the compass. */
    private static final int COURSES = 8;
    private static final int NORTHWARD = 0;
    private static final int EASTWARD = 6;

    private final Log log;
    private final Log snapshot;
    private boolean hasSnapshot;
    private final History history;
    private final RowsText text;
    /** Kept for mostMeant, so that no call needs a new array. */
    private final int[] tally;

    public DittoLog() {
        log = new Log();
        snapshot = new Log();
        hasSnapshot = false;
        history = new History();
        text = new RowsText();
        tally = new int[NUMBERS];
    }

    // ---- rows, corrections

    public int addRow(int course, int speed, int wind, int keeper) {
        if (!isEntry(COURSE, course) || !isEntry(SPEED, speed) || !isEntry(WIND, wind) || !isEntry(KEEPER, keeper)) {
            return BAD_VALUE;
        }
        if (log.rows >= MAX_ROWS) {
            return FULL;
        }
        history.remember(log);
        log.appendRow(course, speed, wind, keeper);
        return log.rows - 1;
    }

    public int addRows() {
        int fault = text.readRows();
        if (fault != NO_FAULT) {
            return FAULT_OFFSET - fault;
        }
        int added = text.rowsRead();
        if (log.rows + added > MAX_ROWS) {
            return FULL;
        }
        history.remember(log);
        for (int i = 0; i < added; i++) {
            log.appendRow(text.read(i, COURSE), text.read(i, SPEED), text.read(i, WIND), text.read(i, KEEPER));
        }
        return added;
    }

    public int removeRow() {
        if (log.rows <= 0) {
            return NOT_POSSIBLE;
        }
        history.remember(log);
        log.dropRow();
        return log.rows;
    }

    public int correct(int row, int column, int entry) {
        if (!log.isCell(row, column)) {
            return UNKNOWN;
        }
        if (!isEntry(column, entry)) {
            return BAD_VALUE;
        }
        if (log.entriesOf(row, column) >= MAX_ENTRIES) {
            return FULL;
        }
        if (log.latestOf(row, column) == entry) {
            return NONE;
        }
        int changed = log.changedBy(row, column, entry);
        history.remember(log);
        log.pushEntry(row, column, entry);
        return changed;
    }

    public int takeBack(int row, int column) {
        if (!log.isCell(row, column)) {
            return UNKNOWN;
        }
        int entries = log.entriesOf(row, column);
        if (entries <= 1) {
            return NOT_POSSIBLE;
        }
        int changed = log.changedBy(row, column, log.entryOf(row, column, entries - 2));
        history.remember(log);
        log.popEntry(row, column);
        return changed;
    }

    public int claim(int watch, int sum) {
        if (watch < 0 || watch >= MAX_WATCHES) {
            return UNKNOWN;
        }
        if (sum != NONE && (sum < 0 || sum > MAX_SUM)) {
            return BAD_VALUE;
        }
        int previous = log.sumOf(watch);
        if (previous == sum) {
            return NONE;
        }
        history.remember(log);
        log.writeSum(watch, sum);
        return previous + SUM_OFFSET;
    }

    public int set(int which, int value) {
        if (which < 0 || which >= SETTINGS || value < at(SETTING_MIN, which) || value > at(SETTING_MAX, which)) {
            return BAD_VALUE;
        }
        int previous = log.settingOf(which);
        if (previous == value) {
            return NONE;
        }
        history.remember(log);
        log.changeSetting(which, value);
        return previous;
    }

    // ---- texts

    public int type(char character) {
        return text.append(character) ? text.length : FULL;
    }

    public int clearText() {
        int before = text.length;
        text.length = 0;
        return before;
    }

    // ---- history

    public int undo() {
        return history.takeInto(log) ? history.size : NONE;
    }

    public int keep() {
        snapshot.copyFrom(log);
        hasSnapshot = true;
        return log.rows;
    }

    public int restore() {
        if (!hasSnapshot) {
            return NONE;
        }
        history.remember(log);
        log.copyFrom(snapshot);
        return log.rows;
    }

    // ---- what is told

    public int cell(int row, int column, int what) {
        if (!log.isCell(row, column)) {
            return UNKNOWN;
        }
        switch (what) {
            case 0: return log.meaningOf(row, column);
            case 1: return log.sourceOf(row, column);
            case 2: return log.entriesOf(row, column);
            case 3: return log.chainOf(row, column);
            case 4: return log.isDoubtful(row, column) ? 1 : 0;
            case 5: return log.followersOf(row, column);
            default: return BAD_VALUE;
        }
    }

    public int entry(int row, int column, int rank) {
        if (!log.isCell(row, column)) {
            return UNKNOWN;
        }
        if (rank < 0 || rank >= log.entriesOf(row, column)) {
            return BAD_VALUE;
        }
        return log.entryOf(row, column, rank);
    }

    public int isWritten(int row) {
        if (!log.isRow(row)) {
            return UNKNOWN;
        }
        return log.isWrittenOut(row) ? 1 : 0;
    }

    public int column(int column, int what) {
        if (!isColumn(column)) {
            return UNKNOWN;
        }
        int last = log.rows - 1;
        switch (what) {
            case 0: return log.countLatest(column, DITTO);
            case 1: return log.countLatest(column, NONE);
            case 2: return log.countCorrections(column);
            case 3: return log.countMeaningless(column, 0, last);
            case 4: return log.longestChain(column);
            case 5: return mostMeant(column, 0, last);
            case 6: return log.countDoubtful(column, 0, last);
            default: return BAD_VALUE;
        }
    }

    public int watch(int watch, int what) {
        if (watch < 0 || watch >= log.watches()) {
            return UNKNOWN;
        }
        int first = log.firstRowOf(watch);
        int last = log.lastRowOf(watch);
        switch (what) {
            case 0: return last - first + 1;
            case 1: return log.runOf(first, last);
            case 2: return mostMeant(KEEPER, first, last);
            case 3: return log.sumOf(watch);
            case 4: return log.sumOf(watch) == NONE ? NONE : log.runOf(first, last) - log.sumOf(watch) + SUM_OFFSET;
            case 5: return log.countMeaningless(SPEED, first, last);
            case 6: return doubtfulCells(first, last);
            default: return BAD_VALUE;
        }
    }

    public int run(int from, int to) {
        if (!log.isRow(from) || !log.isRow(to)) {
            return UNKNOWN;
        }
        return to < from ? BAD_VALUE : log.runOf(from, to);
    }

    public double north(int from, int to) {
        return log.areRows(from, to) ? log.wayOf(from, to, NORTHWARD) : -9999.0;
    }

    public double east(int from, int to) {
        return log.areRows(from, to) ? log.wayOf(from, to, EASTWARD) : -9999.0;
    }

    public int squareBits(int from, int to) {
        if (!log.isRow(from) || !log.isRow(to)) {
            return UNKNOWN;
        }
        if (to < from) {
            return BAD_VALUE;
        }
        double north = log.wayOf(from, to, NORTHWARD);
        double east = log.wayOf(from, to, EASTWARD);
        return bitsOf((float) (north * north + east * east));
    }

    public int wouldChange(int row, int column, int entry) {
        if (!log.isCell(row, column)) {
            return UNKNOWN;
        }
        return isEntry(column, entry) ? log.changedBy(row, column, entry) : BAD_VALUE;
    }

    public int count(int what) {
        switch (what) {
            case 0: return log.rows;
            case 1: return dittos();
            case 2: return corrections();
            case 3: return doubtfulCells(0, log.rows - 1);
            case 4: return log.countWrittenOut();
            case 5: return log.watches();
            case 6: return log.countWrongSums();
            case 7: return log.settingOf(PAGE_ROWS);
            case 8: return log.settingOf(STOPS_AT_PAGES);
            case 9: return log.settingOf(WATCH_ROWS);
            case 10: return history.size;
            case 11: return text.length;
            default: return BAD_VALUE;
        }
    }

    // ---- over all columns

    private int dittos() {
        int found = 0;
        for (int column = 0; column < COLUMNS; column++) {
            found += log.countLatest(column, DITTO);
        }
        return found;
    }

    private int corrections() {
        int found = 0;
        for (int column = 0; column < COLUMNS; column++) {
            found += log.countCorrections(column);
        }
        return found;
    }

    private int doubtfulCells(int from, int to) {
        int found = 0;
        for (int column = 0; column < COLUMNS; column++) {
            found += log.countDoubtful(column, from, to);
        }
        return found;
    }

    /** The number that most cells mean; the numbers are looked through upwards, so of several the least one stays. */
    private int mostMeant(int column, int from, int to) {
        Arrays.fill(tally, 0);
        for (int row = from; row <= to; row++) {
            int number = log.meaningOf(row, column);
            if (number >= 0 && number < tally.length) {
                tally[number]++;
            }
        }
        int most = NONE;
        int cells = 0;
        for (int number = 0; number < tally.length; number++) {
            if (tally[number] > cells) {
                cells = tally[number];
                most = number;
            }
        }
        return most;
    }

    // ---- numbers

    private static boolean isColumn(int column) {
        return column >= 0 && column < COLUMNS;
    }

    private static boolean isEntry(int column, int entry) {
        return entry == NONE || entry == DITTO || (entry >= 0 && entry <= at(COLUMN_MAX, column));
    }

    private static int at(int[] numbers, int index) {
        return index >= 0 && index < numbers.length ? numbers[index] : NONE;
    }

    private static void copyInto(int[] from, int[] to) {
        System.arraycopy(from, 0, to, 0, Math.min(from.length, to.length));
    }

    private static double wayNorth(int course) {
        switch (course) {
            case 0: return 1.0;
            case 1: return 0.7071;
            case 3: return -0.7071;
            case 4: return -1.0;
            case 5: return -0.7071;
            case 7: return 0.7071;
            default: return 0.0;
        }
    }

    /**
     * The bits of a float that is not negative and not infinite, worked out because the language leaves Float out.
     * Scaled to 1 up to 2, its leading 1 is added into the exponent, which so begins one lower; a number that stays
     * below 1 at the least exponent has no leading 1, and zero has no bits at all: the same line serves for them.
     */
    private static int bitsOf(float number) {
        double scaled = number;
        int exponent = 126;
        for (int i = 0; i < 127 && scaled >= 2.0; i++) {
            scaled = scaled / 2.0;
            exponent++;
        }
        for (int i = 0; i < 126 && scaled < 1.0; i++) {
            scaled = scaled * 2.0;
            exponent--;
        }
        return (exponent << 23) + (int) (scaled * 8388608.0);
    }

    /** A state: all that the history and the snapshot keep. */
    private static final class Log {
        private final int[] entries;
        private final int[] entryCounts;
        private final int[] sums;
        private int rows;
        private int pageRows;
        private int stopsAtPages;
        private int watchRows;

        private Log() {
            entries = new int[MAX_ROWS * COLUMNS * MAX_ENTRIES];
            entryCounts = new int[MAX_ROWS * COLUMNS];
            sums = new int[MAX_WATCHES];
            Arrays.fill(sums, NONE);
            rows = 0;
            pageRows = 12;
            stopsAtPages = 0;
            watchRows = 4;
        }

        private void copyFrom(Log other) {
            copyInto(other.entries, entries);
            copyInto(other.entryCounts, entryCounts);
            copyInto(other.sums, sums);
            rows = other.rows;
            pageRows = other.pageRows;
            stopsAtPages = other.stopsAtPages;
            watchRows = other.watchRows;
        }

        // ---- settings and sums

        private int settingOf(int which) {
            switch (which) {
                case PAGE_ROWS: return pageRows;
                case STOPS_AT_PAGES: return stopsAtPages;
                default: return watchRows;
            }
        }

        private void changeSetting(int which, int value) {
            switch (which) {
                case PAGE_ROWS: pageRows = value; break;
                case STOPS_AT_PAGES: stopsAtPages = value; break;
                default: watchRows = value; break;
            }
        }

        private int sumOf(int watch) {
            return at(sums, watch);
        }

        private void writeSum(int watch, int sum) {
            if (watch >= 0 && watch < sums.length) {
                sums[watch] = sum;
            }
        }

        // ---- rows and entries

        private boolean isRow(int row) {
            return row >= 0 && row < rows;
        }

        private boolean areRows(int from, int to) {
            return isRow(from) && isRow(to) && from <= to;
        }

        private boolean isCell(int row, int column) {
            return isRow(row) && isColumn(column);
        }

        private void appendRow(int course, int speed, int wind, int keeper) {
            int row = rows;
            rows++;
            startCell(row, COURSE, course);
            startCell(row, SPEED, speed);
            startCell(row, WIND, wind);
            startCell(row, KEEPER, keeper);
        }

        /** A row that was removed may have left entries here. */
        private void startCell(int row, int column, int entry) {
            int cell = row * COLUMNS + column;
            if (cell >= 0 && cell < entryCounts.length) {
                entryCounts[cell] = 0;
            }
            pushEntry(row, column, entry);
        }

        private void dropRow() {
            rows--;
        }

        private void pushEntry(int row, int column, int entry) {
            int cell = row * COLUMNS + column;
            if (cell < 0 || cell >= entryCounts.length) {
                return;
            }
            int index = cell * MAX_ENTRIES + entryCounts[cell];
            if (index >= 0 && index < entries.length) {
                entries[index] = entry;
                entryCounts[cell]++;
            }
        }

        private void popEntry(int row, int column) {
            int cell = row * COLUMNS + column;
            if (cell >= 0 && cell < entryCounts.length) {
                entryCounts[cell]--;
            }
        }

        private int entriesOf(int row, int column) {
            return at(entryCounts, row * COLUMNS + column);
        }

        private int entryOf(int row, int column, int rank) {
            return at(entries, (row * COLUMNS + column) * MAX_ENTRIES + rank);
        }

        /** Looks at its indexes itself, as it stands at the end of the longest row of calls. */
        private int latestOf(int row, int column) {
            int cell = row * COLUMNS + column;
            if (cell < 0 || cell >= entryCounts.length) {
                return NONE;
            }
            int index = cell * MAX_ENTRIES + entryCounts[cell] - 1;
            return index >= 0 && index < entries.length ? entries[index] : NONE;
        }

        private boolean isWrittenOut(int row) {
            for (int column = 0; column < COLUMNS; column++) {
                if (latestOf(row, column) < 0) {
                    return false;
                }
            }
            return true;
        }

        // ---- chains and meanings

        /** Whether a ditto here would mean what is above it, and not nothing. */
        private boolean hasAbove(int row) {
            return row > 0 && (stopsAtPages == 0 || pageRows <= 0 || row % pageRows != 0);
        }

        private boolean leansUp(int row, int column) {
            return hasAbove(row) && latestOf(row, column) == DITTO;
        }

        private int topOfChain(int row, int column) {
            int top = row;
            while (top > 0 && leansUp(top, column)) {
                top--;
            }
            return top;
        }

        private int chainOf(int row, int column) {
            return row - topOfChain(row, column) + 1;
        }

        private int meaningOf(int row, int column) {
            int written = latestOf(topOfChain(row, column), column);
            return written >= 0 ? written : NONE;
        }

        private int sourceOf(int row, int column) {
            int top = topOfChain(row, column);
            return latestOf(top, column) >= 0 ? top : NONE;
        }

        private boolean isDoubtful(int row, int column) {
            int top = topOfChain(row, column);
            for (int above = row; above >= top; above--) {
                if (entriesOf(above, column) > 1) {
                    return true;
                }
            }
            return false;
        }

        private int followersOf(int row, int column) {
            int last = row;
            while (last + 1 < rows && leansUp(last + 1, column)) {
                last++;
            }
            return last - row;
        }

        private int meaningWith(int row, int column, int entry) {
            if (entry == DITTO) {
                return hasAbove(row) ? meaningOf(row - 1, column) : NONE;
            }
            return entry;
        }

        /** The cells that lean on a cell mean what it means, so they all change with it, or none does. */
        private int changedBy(int row, int column, int entry) {
            if (meaningWith(row, column, entry) == meaningOf(row, column)) {
                return 0;
            }
            return 1 + followersOf(row, column);
        }

        // ---- counts

        private int countLatest(int column, int entry) {
            int found = 0;
            for (int row = 0; row < rows; row++) {
                if (latestOf(row, column) == entry) {
                    found++;
                }
            }
            return found;
        }

        private int countCorrections(int column) {
            int found = 0;
            for (int row = 0; row < rows; row++) {
                found += entriesOf(row, column) - 1;
            }
            return found;
        }

        private int countMeaningless(int column, int from, int to) {
            int found = 0;
            for (int row = from; row <= to; row++) {
                if (meaningOf(row, column) == NONE) {
                    found++;
                }
            }
            return found;
        }

        private int countDoubtful(int column, int from, int to) {
            int found = 0;
            for (int row = from; row <= to; row++) {
                if (isDoubtful(row, column)) {
                    found++;
                }
            }
            return found;
        }

        private int longestChain(int column) {
            int longest = 0;
            for (int row = 0; row < rows; row++) {
                longest = Math.max(longest, chainOf(row, column));
            }
            return longest;
        }

        private int countWrittenOut() {
            int found = 0;
            for (int row = 0; row < rows; row++) {
                if (isWrittenOut(row)) {
                    found++;
                }
            }
            return found;
        }

        // ---- watches, dead reckoning

        private int watches() {
            return watchRows > 0 ? (rows + watchRows - 1) / watchRows : 0;
        }

        private int firstRowOf(int watch) {
            return watch * watchRows;
        }

        private int lastRowOf(int watch) {
            return Math.min(watch * watchRows + watchRows, rows) - 1;
        }

        private int runOf(int from, int to) {
            int sum = 0;
            for (int row = from; row <= to; row++) {
                sum += Math.max(0, meaningOf(row, SPEED));
            }
            return sum;
        }

        private int countWrongSums() {
            int found = 0;
            int watches = watches();
            for (int watch = 0; watch < watches; watch++) {
                int sum = sumOf(watch);
                if (sum != NONE && sum != runOf(firstRowOf(watch), lastRowOf(watch))) {
                    found++;
                }
            }
            return found;
        }

        private double wayOf(int from, int to, int turn) {
            double sum = 0.0;
            for (int row = from; row <= to; row++) {
                int course = meaningOf(row, COURSE);
                int speed = meaningOf(row, SPEED);
                if (course >= 0 && speed >= 0) {
                    sum = sum + speed / 10.0 * wayNorth((course + turn) % COURSES);
                }
            }
            return sum;
        }
    }

    /** The latest states, in a ring, so that dropping the oldest one needs no new object. */
    private static final class History {
        private final Log[] states;
        private int oldest;
        private int size;

        private History() {
            states = new Log[MAX_HISTORY];
            for (int i = 0; i < states.length; i++) {
                states[i] = new Log();
            }
            oldest = 0;
            size = 0;
        }

        private void remember(Log log) {
            if (size < MAX_HISTORY) {
                size++;
            } else {
                oldest = (oldest + 1) % MAX_HISTORY;
            }
            Log slot = latest();
            if (slot != null) {
                slot.copyFrom(log);
            }
        }

        private boolean takeInto(Log log) {
            if (size <= 0) {
                return false;
            }
            Log slot = latest();
            if (slot != null) {
                log.copyFrom(slot);
            }
            size--;
            return true;
        }

        private Log latest() {
            int index = (oldest + size - 1) % MAX_HISTORY;
            return index >= 0 && index < states.length ? states[index] : null;
        }
    }

    /** The text, and the cells that were read from it. */
    private static final class RowsText {
        private final char[] characters;
        private final int[] cells;
        private int length;
        private int cellsRead;

        private RowsText() {
            characters = new char[MAX_TEXT];
            cells = new int[MAX_TEXT];
            length = 0;
            cellsRead = 0;
        }

        private boolean append(char character) {
            if (length < 0 || length >= characters.length) {
                return false;
            }
            characters[length] = character;
            length++;
            return true;
        }

        /** Reads the rows and answers the fault of the text, or NO_FAULT. */
        private int readRows() {
            cellsRead = 0;
            int entry = UNREAD;
            for (int i = 0; i < length && i < characters.length; i++) {
                char sign = characters[i];
                int grown = grownBy(entry, sign);
                if (grown != REFUSED) {
                    entry = grown;
                } else if (entry != UNREAD && sign == separator()) {
                    endCell(entry);
                    entry = UNREAD;
                } else {
                    return i;
                }
            }
            if (entry == UNREAD || columnRead() != KEEPER) {
                return length;
            }
            endCell(entry);
            return NO_FAULT;
        }

        private int columnRead() {
            return cellsRead % COLUMNS;
        }

        private char separator() {
            return columnRead() == KEEPER ? ';' : ',';
        }

        /** The entry with one more sign, or REFUSED if the sign can't belong to it. */
        private int grownBy(int entry, char sign) {
            if (sign >= '0' && sign <= '9') {
                return withDigit(entry, sign - '0');
            }
            if (entry == UNREAD && sign == '-') {
                return NONE;
            }
            return entry == UNREAD && sign == '\'' ? DITTO : REFUSED;
        }

        /** Only a number above 0 goes on: a 0 stands alone, as do a blank and a ditto. */
        private int withDigit(int entry, int digit) {
            if (entry != UNREAD && entry <= 0) {
                return REFUSED;
            }
            int number = entry == UNREAD ? digit : entry * 10 + digit;
            return number <= at(COLUMN_MAX, columnRead()) ? number : REFUSED;
        }

        private void endCell(int entry) {
            if (cellsRead >= 0 && cellsRead < cells.length) {
                cells[cellsRead] = entry;
                cellsRead++;
            }
        }

        private int rowsRead() {
            return cellsRead / COLUMNS;
        }

        private int read(int row, int column) {
            return at(cells, row * COLUMNS + column);
        }
    }
}
