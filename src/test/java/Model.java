import java.util.ArrayList;
import java.util.List;
import java.util.regex.Matcher;
import java.util.regex.Pattern;

/**
 * The document once more, written as plainly as it reads and with no thought of speed: what a cell means is told
 * by recursion, what a change would change by comparing all cells, the fault of a text by a pattern.
 */
final class Model {
    static final int UNKNOWN = -1;
    static final int BAD_VALUE = -2;
    static final int FULL = -3;
    static final int NOT_POSSIBLE = -4;
    static final int NONE = -5;
    static final int DITTO = -6;

    private static final int[] MAX = {7, 199, 12, 9};
    private static final int[][] RANGES = {{4, 12}, {0, 1}, {2, 6}};
    private static final double[] NORTH = {1.0, 0.7071, 0.0, -0.7071, -1.0, -0.7071, 0.0, 0.7071};
    private static final String ROW =
        "([0-7]|-|'),(0|[1-9][0-9]?|1[0-9][0-9]|-|'),([0-9]|1[0-2]|-|'),([0-9]|-|')";
    private static final Pattern ROWS = Pattern.compile(ROW + "(;" + ROW + ")*");

    /** rows.get(row).get(column) is the list of a cell's entries. */
    private static final class State {
        List<List<List<Integer>>> rows = new ArrayList<>();
        int[] claims = new int[24];
        int[] settings = {12, 0, 4};

        State copy() {
            State other = new State();
            for (List<List<Integer>> row : rows) {
                List<List<Integer>> cells = new ArrayList<>();
                for (List<Integer> cell : row) {
                    cells.add(new ArrayList<>(cell));
                }
                other.rows.add(cells);
            }
            other.claims = claims.clone();
            other.settings = settings.clone();
            return other;
        }
    }

    private State now = new State();
    private State snapshot;
    private final List<State> history = new ArrayList<>();
    private String text = "";

    Model() {
        java.util.Arrays.fill(now.claims, NONE);
    }

    // ---- the words of the document

    private boolean isRow(int row) {
        return row >= 0 && row < now.rows.size();
    }

    private boolean isColumn(int column) {
        return column >= 0 && column < 4;
    }

    private boolean isEntry(int column, int entry) {
        return entry == NONE || entry == DITTO || entry >= 0 && entry <= MAX[column];
    }

    private List<Integer> entries(int row, int column) {
        return now.rows.get(row).get(column);
    }

    private int latest(int row, int column) {
        List<Integer> entries = entries(row, column);
        return entries.get(entries.size() - 1);
    }

    private boolean dittoMeansAbove(int row, int column) {
        return latest(row, column) == DITTO && row != 0
            && !(now.settings[1] == 1 && row % now.settings[0] == 0);
    }

    private int meaning(int row, int column) {
        if (dittoMeansAbove(row, column)) {
            return meaning(row - 1, column);
        }
        return latest(row, column) == DITTO ? NONE : latest(row, column);
    }

    private int source(int row, int column) {
        if (meaning(row, column) == NONE) {
            return NONE;
        }
        return latest(row, column) == DITTO ? source(row - 1, column) : row;
    }

    private List<Integer> chain(int row, int column) {
        List<Integer> chain = dittoMeansAbove(row, column) ? chain(row - 1, column) : new ArrayList<>();
        chain.add(row);
        return chain;
    }

    private boolean doubtful(int row, int column) {
        for (int link : chain(row, column)) {
            if (entries(link, column).size() > 1) {
                return true;
            }
        }
        return false;
    }

    private int[] meanings() {
        int[] all = new int[now.rows.size() * 4];
        for (int i = 0; i < all.length; i++) {
            all[i] = meaning(i / 4, i % 4);
        }
        return all;
    }

    private static int differences(int[] one, int[] other) {
        int found = 0;
        for (int i = 0; i < one.length; i++) {
            if (one[i] != other[i]) {
                found++;
            }
        }
        return found;
    }

    private int runOf(int from, int to) {
        int sum = 0;
        for (int row = from; row <= to; row++) {
            if (meaning(row, 1) != NONE) {
                sum += meaning(row, 1);
            }
        }
        return sum;
    }

    private int most(int column, List<Integer> rows) {
        int best = NONE;
        int cells = 0;
        for (int number = MAX[column]; number >= 0; number--) {
            int found = 0;
            for (int row : rows) {
                if (meaning(row, column) == number) {
                    found++;
                }
            }
            if (found > 0 && found >= cells) {
                cells = found;
                best = number;
            }
        }
        return best;
    }

    private List<Integer> rowsOfWatch(int watch) {
        List<Integer> rows = new ArrayList<>();
        for (int row = 0; row < now.rows.size(); row++) {
            if (row / now.settings[2] == watch) {
                rows.add(row);
            }
        }
        return rows;
    }

    private double way(int from, int to, int turn) {
        double sum = 0.0;
        for (int row = from; row <= to; row++) {
            int course = meaning(row, 0);
            int speed = meaning(row, 1);
            if (course != NONE && speed != NONE) {
                sum += speed / 10.0 * NORTH[(course + 8 - turn) % 8];
            }
        }
        return sum;
    }

    /** -1 if the text is one of rows. */
    private int fault() {
        for (int end = 1; end <= text.length(); end++) {
            Matcher matcher = ROWS.matcher(text.substring(0, end));
            if (!matcher.matches() && !matcher.hitEnd()) {
                return end - 1;
            }
        }
        return ROWS.matcher(text).matches() ? -1 : text.length();
    }

    /** For the generator of calls, which asks often. */
    int rows() {
        return now.rows.size();
    }

    int watches() {
        return rows() == 0 ? 0 : (rows() - 1) / now.settings[2] + 1;
    }

    private void record() {
        history.add(now.copy());
        if (history.size() > 4) {
            history.remove(0);
        }
    }

    private void add(int... entries) {
        List<List<Integer>> row = new ArrayList<>();
        for (int entry : entries) {
            List<Integer> cell = new ArrayList<>();
            cell.add(entry);
            row.add(cell);
        }
        now.rows.add(row);
    }

    // ---- the face

    int addRow(int course, int speed, int wind, int keeper) {
        if (!isEntry(0, course) || !isEntry(1, speed) || !isEntry(2, wind) || !isEntry(3, keeper)) {
            return BAD_VALUE;
        }
        if (now.rows.size() == 48) {
            return FULL;
        }
        record();
        add(course, speed, wind, keeper);
        return now.rows.size() - 1;
    }

    int addRows() {
        int fault = fault();
        if (fault >= 0) {
            return -100 - fault;
        }
        String[] rows = text.split(";");
        if (now.rows.size() + rows.length > 48) {
            return FULL;
        }
        record();
        for (String row : rows) {
            String[] cells = row.split(",");
            int[] entries = new int[4];
            for (int i = 0; i < 4; i++) {
                entries[i] = cells[i].equals("-") ? NONE : cells[i].equals("'") ? DITTO : Integer.parseInt(cells[i]);
            }
            add(entries);
        }
        return rows.length;
    }

    int removeRow() {
        if (now.rows.isEmpty()) {
            return NOT_POSSIBLE;
        }
        record();
        now.rows.remove(now.rows.size() - 1);
        return now.rows.size();
    }

    int correct(int row, int column, int entry) {
        if (!isRow(row) || !isColumn(column)) {
            return UNKNOWN;
        }
        if (!isEntry(column, entry)) {
            return BAD_VALUE;
        }
        if (entries(row, column).size() == 4) {
            return FULL;
        }
        if (latest(row, column) == entry) {
            return NONE;
        }
        record();
        int[] before = meanings();
        entries(row, column).add(entry);
        return differences(before, meanings());
    }

    int takeBack(int row, int column) {
        if (!isRow(row) || !isColumn(column)) {
            return UNKNOWN;
        }
        List<Integer> entries = entries(row, column);
        if (entries.size() == 1) {
            return NOT_POSSIBLE;
        }
        record();
        int[] before = meanings();
        entries.remove(entries.size() - 1);
        return differences(before, meanings());
    }

    int claim(int watch, int sum) {
        if (watch < 0 || watch > 23) {
            return UNKNOWN;
        }
        if (sum != NONE && (sum < 0 || sum > 9999)) {
            return BAD_VALUE;
        }
        int previous = now.claims[watch];
        if (previous == sum) {
            return NONE;
        }
        record();
        now.claims[watch] = sum;
        return previous + 10000;
    }

    int set(int which, int value) {
        if (which < 0 || which > 2 || value < RANGES[which][0] || value > RANGES[which][1]) {
            return BAD_VALUE;
        }
        int previous = now.settings[which];
        if (previous == value) {
            return NONE;
        }
        record();
        now.settings[which] = value;
        return previous;
    }

    int type(char character) {
        if (text.length() == 60) {
            return FULL;
        }
        text = text + character;
        return text.length();
    }

    int clearText() {
        int before = text.length();
        text = "";
        return before;
    }

    int undo() {
        if (history.isEmpty()) {
            return NONE;
        }
        now = history.remove(history.size() - 1);
        return history.size();
    }

    int keep() {
        snapshot = now.copy();
        return now.rows.size();
    }

    int restore() {
        if (snapshot == null) {
            return NONE;
        }
        record();
        now = snapshot.copy();
        return now.rows.size();
    }

    int cell(int row, int column, int what) {
        if (!isRow(row) || !isColumn(column)) {
            return UNKNOWN;
        }
        switch (what) {
            case 0: return meaning(row, column);
            case 1: return source(row, column);
            case 2: return entries(row, column).size();
            case 3: return chain(row, column).size();
            case 4: return doubtful(row, column) ? 1 : 0;
            case 5:
                int found = 0;
                for (int below = row + 1; below < now.rows.size(); below++) {
                    if (chain(below, column).contains(row)) {
                        found++;
                    }
                }
                return found;
            default: return BAD_VALUE;
        }
    }

    int entry(int row, int column, int rank) {
        if (!isRow(row) || !isColumn(column)) {
            return UNKNOWN;
        }
        if (rank < 0 || rank >= entries(row, column).size()) {
            return BAD_VALUE;
        }
        return entries(row, column).get(rank);
    }

    int isWritten(int row) {
        if (!isRow(row)) {
            return UNKNOWN;
        }
        int numbers = 0;
        for (int column = 0; column < 4; column++) {
            if (latest(row, column) != NONE && latest(row, column) != DITTO) {
                numbers++;
            }
        }
        return numbers == 4 ? 1 : 0;
    }

    int column(int column, int what) {
        if (!isColumn(column)) {
            return UNKNOWN;
        }
        if (what < 0 || what > 6) {
            return BAD_VALUE;
        }
        int[] told = new int[7];
        List<Integer> rows = new ArrayList<>();
        for (int row = 0; row < now.rows.size(); row++) {
            rows.add(row);
            told[0] += latest(row, column) == DITTO ? 1 : 0;
            told[1] += latest(row, column) == NONE ? 1 : 0;
            told[2] += entries(row, column).size() - 1;
            told[3] += meaning(row, column) == NONE ? 1 : 0;
            told[4] = Math.max(told[4], chain(row, column).size());
            told[6] += doubtful(row, column) ? 1 : 0;
        }
        return what == 5 ? most(column, rows) : told[what];
    }

    int watch(int watch, int what) {
        List<Integer> rows = rowsOfWatch(watch);
        if (watch < 0 || rows.isEmpty()) {
            return UNKNOWN;
        }
        if (what < 0 || what > 6) {
            return BAD_VALUE;
        }
        int run = runOf(rows.get(0), rows.get(rows.size() - 1));
        int[] told = {rows.size(), run, what == 2 ? most(3, rows) : 0, now.claims[watch], NONE, 0, 0};
        if (now.claims[watch] != NONE) {
            told[4] = run - now.claims[watch] + 10000;
        }
        for (int row : rows) {
            told[5] += meaning(row, 1) == NONE ? 1 : 0;
            for (int column = 0; column < 4; column++) {
                told[6] += doubtful(row, column) ? 1 : 0;
            }
        }
        return told[what];
    }

    int run(int from, int to) {
        if (!isRow(from) || !isRow(to)) {
            return UNKNOWN;
        }
        return to < from ? BAD_VALUE : runOf(from, to);
    }

    double north(int from, int to) {
        return isRow(from) && isRow(to) && to >= from ? way(from, to, 0) : -9999.0;
    }

    double east(int from, int to) {
        return isRow(from) && isRow(to) && to >= from ? way(from, to, 2) : -9999.0;
    }

    int squareBits(int from, int to) {
        if (!isRow(from) || !isRow(to)) {
            return UNKNOWN;
        }
        if (to < from) {
            return BAD_VALUE;
        }
        double north = north(from, to);
        double east = east(from, to);
        return Float.floatToIntBits((float) (north * north + east * east));
    }

    int wouldChange(int row, int column, int entry) {
        if (!isRow(row) || !isColumn(column)) {
            return UNKNOWN;
        }
        if (!isEntry(column, entry)) {
            return BAD_VALUE;
        }
        int[] before = meanings();
        entries(row, column).add(entry);
        int[] after = meanings();
        entries(row, column).remove(entries(row, column).size() - 1);
        return differences(before, after);
    }

    int count(int what) {
        int told = 0;
        switch (what) {
            case 0:
                return now.rows.size();
            case 1:
                return column(0, 0) + column(1, 0) + column(2, 0) + column(3, 0);
            case 2:
                return column(0, 2) + column(1, 2) + column(2, 2) + column(3, 2);
            case 3:
                return column(0, 6) + column(1, 6) + column(2, 6) + column(3, 6);
            case 4:
                for (int row = 0; row < now.rows.size(); row++) {
                    told += isWritten(row);
                }
                return told;
            case 5:
                for (int watch = 0; watch < 24; watch++) {
                    told += rowsOfWatch(watch).isEmpty() ? 0 : 1;
                }
                return told;
            case 6:
                for (int watch = 0; watch < 24; watch++) {
                    boolean wrong = watch(watch, 3) >= 0 && watch(watch, 3) != watch(watch, 1);
                    told += wrong ? 1 : 0;
                }
                return told;
            case 7:
            case 8:
            case 9:
                return now.settings[what - 7];
            case 10:
                return history.size();
            case 11:
                return text.length();
            default:
                return BAD_VALUE;
        }
    }
}
