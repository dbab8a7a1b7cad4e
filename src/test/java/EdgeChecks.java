/** What the checks of edges share: the constants, and the ends of the ranges that several promises have. */
abstract class EdgeChecks {
    static final int UNKNOWN = -1;
    static final int BAD_VALUE = -2;
    static final int FULL = -3;
    static final int NOT_POSSIBLE = -4;
    static final int NONE = -5;
    static final int DITTO = -6;
    static final int LEAST = Integer.MIN_VALUE;
    static final int MOST = Integer.MAX_VALUE;
    static final int[] GREATEST = {7, 199, 12, 9};

    /** Four and sixteen times these come back into the range of the rows, or of the cells, by wrap-around. */
    private static final int[] FAR = {LEAST, LEAST + 1, -(1 << 30), -(1 << 28), 1 << 28, 1 << 30, MOST - 1, MOST};
    private static final int[] NO_ENTRIES = {-1, -2, -3, -4, -7, LEAST, MOST, (1 << 30) + 1};

    interface OfOne {
        long on(DittoLog log, int argument);
    }

    interface OfTwo {
        long on(DittoLog log, int first, int second);
    }

    interface OfEntry {
        long on(DittoLog log, int row, int column, int entry);
    }

    private final Edges edges;

    EdgeChecks(Edges edges) {
        this.edges = edges;
    }

    abstract void all();

    void says(String sentence) {
        edges.says(sentence);
    }

    void says(int promise, String sentence) {
        edges.says(promise + " " + sentence);
    }

    void same(String call, long got, long want) {
        edges.same(call, got, want);
    }

    void sameDouble(String call, double got, double want) {
        edges.sameDouble(call, got, want);
    }

    void isTrue(String what, boolean holds) {
        edges.isTrue(what, holds);
    }

    // ---- ranges

    /** Both ends of a range answer what is due, and the next ones beyond them what is due there. */
    void range(OfOne call, int least, int greatest, long inside, long outside) {
        same("the least, " + least, call.on(Logs.filled(48, 0), least), inside);
        same("the greatest, " + greatest, call.on(Logs.filled(48, 0), greatest), inside);
        beyond(call, least, greatest, outside);
    }

    void beyond(OfOne call, int least, int greatest, long outside) {
        same("one less, " + (least - 1), call.on(Logs.filled(48, 0), least - 1), outside);
        same("one more, " + (greatest + 1), call.on(Logs.filled(48, 0), greatest + 1), outside);
        for (int far : FAR) {
            same("far beyond, " + far, call.on(Logs.filled(48, 0), far), outside);
        }
    }

    /** The rows of logbooks with no row, one, some and all; the rows are zeros. */
    void rows(OfOne call, long due) {
        for (int rows : new int[] {1, 2, 13, 48}) {
            same("row 0 of " + rows, call.on(Logs.filled(rows, 0), 0), due);
            same("the last row of " + rows, call.on(Logs.filled(rows, 0), rows - 1), due);
        }
    }

    void noRows(OfOne call, long due) {
        for (int rows : new int[] {0, 1, 2, 13, 48}) {
            same("row -1 of " + rows, call.on(Logs.filled(rows, 0), -1), due);
            same("row " + rows + " of " + rows, call.on(Logs.filled(rows, 0), rows), due);
            for (int far : FAR) {
                same("row " + far + " of " + rows, call.on(Logs.filled(rows, 0), far), due);
            }
        }
        DittoLog log = Logs.filled(2, 0);
        log.removeRow();
        same("a row that was removed", call.on(log, 1), due);
    }

    /** All four columns answer what is due; the others have no cell, whatever the row. */
    void columns(OfOne call, long due) {
        for (int column = 0; column < 4; column++) {
            same("column " + column, call.on(Logs.filled(1, 0), column), due);
        }
        beyond(call, 0, 3, UNKNOWN);
    }

    /** The kinds of entries, put into a cell that has a 1. */
    void entries(OfEntry call, long due) {
        for (int column = 0; column < 4; column++) {
            for (int entry : new int[] {0, GREATEST[column], NONE, DITTO}) {
                same("column " + column + ", entry " + entry, call.on(Logs.filled(1, 1), 0, column, entry), due);
            }
        }
    }

    void noEntries(OfEntry call) {
        for (int column = 0; column < 4; column++) {
            int one = GREATEST[column] + 1;
            same("column " + column + ", one more", call.on(Logs.filled(1, 1), 0, column, one), BAD_VALUE);
            for (int wrong : NO_ENTRIES) {
                same("column " + column + ", entry " + wrong, call.on(Logs.filled(1, 1), 0, column, wrong), BAD_VALUE);
            }
        }
    }

    // ---- acts

    /** An act leaves one state more, and the state is the one that was before it. */
    void isAct(OfOne act) {
        DittoLog log = new DittoLog();
        Logs.typeText(log, "1,10,1,1;2,20,-,';1,',3,4");
        log.addRows();
        log.keep();
        log.correct(1, 1, 30);
        String before = seen(log);
        isTrue("it is done", act.on(log, 0) != NONE);
        same("one state more", log.count(10), 3);
        same("it is undone", log.undo(), 2);
        isTrue("the state is as it was", seen(log).equals(before));
    }

    private static String seen(DittoLog log) {
        StringBuilder seen = new StringBuilder();
        for (int what = 0; what < 12; what++) {
            seen.append(' ').append(log.count(what));
        }
        for (int i = 0; i < 4 * 4 * 4; i++) {
            seen.append(' ').append(log.entry(i / 16, i / 4 % 4, i % 4));
        }
        return seen.append(' ').append(log.watch(0, 3)).toString();
    }
}
