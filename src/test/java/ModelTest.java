/**
 * Runs of calls, each made on a DittoLog and on the Model, with the same answers. The calls come from a written
 * generator with a number for each run, so that a run which fails can be made again.
 */
public final class ModelTest {
    private static final int RUNS = 1500;
    private static final int CALLS = 512;
    private static final int[] WILD = {
        Integer.MIN_VALUE, Integer.MIN_VALUE + 1, -1000, -101, -8, -7, -6, -5, -4, -3, -2, -1, 0, 1, 2, 3, 4, 5, 6, 7,
        8, 9, 10, 11, 12, 13, 22, 23, 24, 25, 47, 48, 49, 199, 200, 9999, 10000, 10001, 1 << 28, 1 << 29, 1 << 30,
        Integer.MAX_VALUE - 1, Integer.MAX_VALUE,
    };
    private static final int[] MAX = {7, 199, 12, 9};

    private final Check check;
    private final DittoLog log = new DittoLog();
    private final Model model = new Model();
    private final int run;
    private final int dittos;
    private final int texts;
    private final int removals;
    private long seed;
    private int calls;

    private ModelTest(Check check, int run) {
        this.check = check;
        this.run = run;
        seed = run * 7919L + 17;
        dittos = 1 + below(9);
        texts = below(4) == 0 ? 30 : 2;
        removals = below(4) == 0 ? 30 : 4;
    }

    public static void main(String[] args) {
        Check check = new Check("model");
        for (int run = 0; run < RUNS; run++) {
            new ModelTest(check, run).go();
        }
        check.end();
    }

    private int below(int bound) {
        seed = seed * 6364136223846793005L + 1442695040888963407L;
        return (int) ((seed >>> 33) % bound);
    }

    private int wildOr(int usual) {
        return below(40) == 0 ? WILD[below(WILD.length)] : usual;
    }

    private int row() {
        int rows = model.rows();
        return wildOr(below(3) == 0 ? Math.max(0, rows - 1 - below(3)) : below(rows + 1));
    }

    private int entryFor(int column) {
        int kind = below(10);
        if (kind < dittos) {
            return wildOr(-6);
        }
        int max = column >= 0 && column < 4 ? MAX[column] : 9;
        return wildOr(below(8) == 0 ? -5 : below(6) == 0 ? max : below(4) == 0 ? below(2) : below(max + 1));
    }

    private void same(String call, long got, long want) {
        calls++;
        check.same("run " + run + ", call " + calls + ": " + call, got, want);
    }

    private void sameDouble(String call, double got, double want) {
        calls++;
        check.sameDouble("run " + run + ", call " + calls + ": " + call, got, want);
    }

    private void go() {
        int fill = below(3) == 0 ? 40 + below(12) : below(20);
        for (int i = 0; i < fill; i++) {
            addRow();
        }
        while (calls < CALLS - 64) {
            int kind = below(100);
            if (kind < 50) {
                act();
            } else {
                ask();
            }
        }
        while (calls < CALLS) {
            ask();
        }
    }

    private void addRow() {
        int[] e = {entryFor(0), entryFor(1), entryFor(2), entryFor(3)};
        same("addRow(" + e[0] + ", " + e[1] + ", " + e[2] + ", " + e[3] + ")",
            log.addRow(e[0], e[1], e[2], e[3]), model.addRow(e[0], e[1], e[2], e[3]));
    }

    private void act() {
        int kind = below(100 + texts + removals);
        int row = row();
        int column = wildOr(below(4));
        int entry = entryFor(column);
        if (kind < 20) {
            addRow();
        } else if (kind < 50) {
            same("correct(" + row + ", " + column + ", " + entry + ")",
                log.correct(row, column, entry), model.correct(row, column, entry));
        } else if (kind < 58) {
            same("takeBack(" + row + ", " + column + ")", log.takeBack(row, column), model.takeBack(row, column));
        } else if (kind < 70) {
            claim();
        } else if (kind < 82) {
            int which = wildOr(below(3));
            int value = wildOr(which == 0 ? 3 + below(11) : which == 1 ? below(2) : 1 + below(7));
            same("set(" + which + ", " + value + ")", log.set(which, value), model.set(which, value));
        } else if (kind < 92) {
            same("undo()", log.undo(), model.undo());
        } else if (kind < 96) {
            same("keep()", log.keep(), model.keep());
        } else if (kind < 100) {
            same("restore()", log.restore(), model.restore());
        } else if (kind < 100 + texts) {
            text();
        } else {
            same("removeRow()", log.removeRow(), model.removeRow());
        }
    }

    private void claim() {
        int watches = model.watches();
        int watch = wildOr(below(3) == 0 ? below(24) : below(watches + 1));
        int run = model.watch(watch, 1);
        int sum = wildOr(below(4) == 0 ? -5 : below(2) == 0 && run >= 0 ? run : below(10000));
        same("claim(" + watch + ", " + sum + ")", log.claim(watch, sum), model.claim(watch, sum));
    }

    private void text() {
        if (below(8) != 0) {
            same("clearText()", log.clearText(), model.clearText());
        }
        StringBuilder rows = new StringBuilder();
        for (int left = 1 + below(below(3) == 0 ? 8 : 3); left > 0; left--) {
            for (int column = 0; column < 4; column++) {
                int entry = entryFor(column);
                rows.append(entry == -5 ? "-" : entry == -6 ? "'" : "" + Math.abs(entry % 1000));
                rows.append(column < 3 ? "," : left > 1 ? ";" : "");
            }
        }
        if (below(3) == 0) {
            rows.insert(below(rows.length() + 1), "0123456789,;-' \u00e9\u20ac/:".charAt(below(19)));
        }
        if (below(4) == 0) {
            rows.deleteCharAt(below(rows.length()));
        }
        for (int i = 0; i < rows.length() && i < 62 && calls < CALLS - 70; i++) {
            same("type(" + rows.charAt(i) + ")", log.type(rows.charAt(i)), model.type(rows.charAt(i)));
        }
        same("addRows() of " + rows, log.addRows(), model.addRows());
    }

    private void ask() {
        int row = row();
        int column = wildOr(below(4));
        int other = row();
        int from = below(8) == 0 ? row : Math.min(row, other);
        int to = below(8) == 0 ? other : Math.max(row, other);
        switch (below(12)) {
            case 0:
            case 1:
                int what = wildOr(below(6));
                same("cell(" + row + ", " + column + ", " + what + ")",
                    log.cell(row, column, what), model.cell(row, column, what));
                break;
            case 2:
                int rank = wildOr(below(5));
                same("entry(" + row + ", " + column + ", " + rank + ")",
                    log.entry(row, column, rank), model.entry(row, column, rank));
                break;
            case 3:
                same("isWritten(" + row + ")", log.isWritten(row), model.isWritten(row));
                break;
            case 4:
                what = wildOr(below(7));
                same("column(" + column + ", " + what + ")", log.column(column, what), model.column(column, what));
                break;
            case 5:
                int watch = wildOr(below(model.watches() + 1));
                what = wildOr(below(7));
                same("watch(" + watch + ", " + what + ")", log.watch(watch, what), model.watch(watch, what));
                break;
            case 6:
                same("run(" + from + ", " + to + ")", log.run(from, to), model.run(from, to));
                break;
            case 7:
                sameDouble("north(" + from + ", " + to + ")", log.north(from, to), model.north(from, to));
                break;
            case 8:
                sameDouble("east(" + from + ", " + to + ")", log.east(from, to), model.east(from, to));
                break;
            case 9:
                same("squareBits(" + from + ", " + to + ")", log.squareBits(from, to), model.squareBits(from, to));
                break;
            case 10:
                int entry = entryFor(column);
                same("wouldChange(" + row + ", " + column + ", " + entry + ")",
                    log.wouldChange(row, column, entry), model.wouldChange(row, column, entry));
                break;
            default:
                what = wildOr(below(12));
                same("count(" + what + ")", log.count(what), model.count(what));
                break;
        }
    }
}
