import java.util.ArrayList;
import java.util.List;

/** The edges of the errors: their order, and that a refused call changes nothing. */
final class EdgesOfRefusals extends EdgeChecks {
    private List<Told.Call> made;
    private List<Long> before;

    EdgesOfRefusals(Edges edges) {
        super(edges);
    }

    @Override
    void all() {
        constants();
        arguments();
        order();
        noneIsNoError();
        says("A call that returns an error or NONE changes nothing.");
        refusedByNew();
        refusedBySome();
        refusedByFull();
        questionsChangeNothing();
    }

    // ---- constants and arguments

    private void constants() {
        says("Errors are reported by the constants below.");
        DittoLog log = Logs.filled(48, 0);
        same("no row", log.isWritten(48), DittoLog.UNKNOWN);
        same("a bad value", log.count(12), DittoLog.BAD_VALUE);
        same("no room", log.addRow(0, 0, 0, 0), DittoLog.FULL);
        same("not possible", log.takeBack(0, 0), DittoLog.NOT_POSSIBLE);
        says("UNKNOWN = -1: There is no such row, column or watch.");
        same("it", DittoLog.UNKNOWN, -1);
        same("row", log.cell(48, 0, 0), -1);
        same("column", log.cell(0, 4, 0), -1);
        same("watch", log.watch(12, 0), -1);
        says("BAD_VALUE = -2: Another argument is out of range.");
        same("it", DittoLog.BAD_VALUE, -2);
        same("what", log.cell(0, 0, 6), -2);
        says("FULL = -3: There is no more room.");
        same("it", DittoLog.FULL, -3);
        same("the 49th row", log.addRow(0, 0, 0, 0), -3);
        says("NOT_POSSIBLE = -4: This is not possible.");
        same("it", DittoLog.NOT_POSSIBLE, -4);
        same("the first entry", log.takeBack(0, 0), -4);
        says("NONE = -5: There is no such thing; not an error.");
        same("it", DittoLog.NONE, -5);
        same("no snapshot", log.restore(), -5);
        says("DITTO = -6: A ditto mark.");
        same("it", DittoLog.DITTO, -6);
        log.correct(1, 1, -6);
        same("written", log.entry(1, 1, 1), -6);
    }

    private void arguments() {
        says("As an argument, NONE is a blank, and DITTO a ditto.");
        DittoLog log = Logs.filled(1, 3);
        same("addRow", log.addRow(-5, -6, -6, -5), 1);
        same("a blank", log.cell(1, 0, 0), NONE);
        same("a ditto", log.cell(1, 1, 0), 3);
        same("wouldChange by a blank", log.wouldChange(1, 1, -5), 1);
        same("wouldChange by a ditto", log.wouldChange(1, 0, -6), 1);
        same("correct by a blank", log.correct(1, 1, -5), 1);
        same("correct by a ditto", log.correct(1, 0, -6), 1);
        log.claim(0, 0);
        same("claim of a blank", log.claim(0, -5), 10000);
        same("but not of a ditto", log.claim(0, -6), BAD_VALUE);
    }

    // ---- order

    private void order() {
        says("Where several errors can apply, the order of the @return line is the order of the checks.");
        DittoLog log = Logs.filled(48, 0);
        for (int entry = 1; entry <= 3; entry++) {
            log.correct(0, 0, entry);
        }
        same("addRow: wrong, and no room", log.addRow(0, 0, 0, 10), BAD_VALUE);
        same("addRows: a fault, and no room", log.addRows(), -100);
        same("correct: no row, wrong", log.correct(48, 0, 8), UNKNOWN);
        same("correct: no column, wrong", log.correct(0, -1, 200), UNKNOWN);
        same("correct: wrong, and no room", log.correct(0, 0, 8), BAD_VALUE);
        same("correct: no room, and the same", log.correct(0, 0, 3), FULL);
        same("takeBack: no column, and one entry", log.takeBack(1, 4), UNKNOWN);
        same("claim: no watch, wrong", log.claim(24, 10000), UNKNOWN);
        same("claim: no watch, and blank already", log.claim(24, NONE), UNKNOWN);
        same("cell: no row, wrong", log.cell(48, 0, 6), UNKNOWN);
        same("cell: no column, wrong", log.cell(0, 4, 6), UNKNOWN);
        same("entry: no row, wrong", log.entry(48, 0, 4), UNKNOWN);
        same("entry: no column, wrong", log.entry(0, 4, 4), UNKNOWN);
        same("column: no column, wrong", log.column(4, 7), UNKNOWN);
        same("watch: no watch, wrong", log.watch(12, 7), UNKNOWN);
        same("run: no row, and to is less", log.run(48, 0), UNKNOWN);
        same("run: to is no row, and less", log.run(0, -1), UNKNOWN);
        same("squareBits: no row, and to is less", log.squareBits(48, 0), UNKNOWN);
        same("squareBits: to is no row, and less", log.squareBits(0, -1), UNKNOWN);
        same("wouldChange: no row, wrong", log.wouldChange(48, 0, 8), UNKNOWN);
        same("wouldChange: no column, wrong", log.wouldChange(0, 4, 8), UNKNOWN);
    }

    private void noneIsNoError() {
        says("NONE is no error; it is returned only if no error applies.");
        DittoLog log = Logs.filled(1, NONE);
        same("a blank for a blank", log.correct(0, 0, NONE), NONE);
        same("a blank where there is no row", log.correct(1, 0, NONE), UNKNOWN);
        same("a blank where there is no column", log.correct(0, 4, NONE), UNKNOWN);
        log.correct(0, 0, 1);
        log.correct(0, 0, 2);
        log.correct(0, 0, NONE);
        same("a blank for a blank, without room", log.correct(0, 0, NONE), FULL);
        same("a blank sum for a blank one", log.claim(23, NONE), NONE);
        same("a blank sum where there is no watch", log.claim(24, NONE), UNKNOWN);
        same("a setting that is so", log.set(0, 12), NONE);
        same("no setting", log.set(3, 12), BAD_VALUE);
        same("no meaning", log.cell(0, 1, 0), NONE);
        same("no cell", log.cell(0, 4, 0), UNKNOWN);
        same("no keeper", log.watch(0, 2), NONE);
        same("no watch", log.watch(1, 2), UNKNOWN);
        same("no own sum", log.watch(0, 4), NONE);
        same("no watch, without a sum", log.watch(1, 4), UNKNOWN);
    }

    // ---- refused calls

    private void made(List<Told.Call> calls) {
        made = calls;
        before = Told.after(made);
    }

    /** The call answers what is due, and all that the object tells after it is what it told before. */
    private void refused(String call, Told.Call refused, long due) {
        List<Told.Call> calls = new ArrayList<>(made);
        same(call, refused.on(Told.object(calls)), due);
        calls.add(refused);
        isTrue(call + " changes nothing", Told.after(calls).equals(before));
    }

    private void refusedByNew() {
        made(new ArrayList<>());
        refused("addRow, wrong", log -> log.addRow(0, 0, 0, 10), BAD_VALUE);
        refused("addRows of no text", log -> log.addRows(), -100);
        refused("removeRow", log -> log.removeRow(), NOT_POSSIBLE);
        refused("correct", log -> log.correct(0, 0, 0), UNKNOWN);
        refused("takeBack", log -> log.takeBack(0, 0), UNKNOWN);
        refused("claim, no watch", log -> log.claim(24, 0), UNKNOWN);
        refused("claim, blank already", log -> log.claim(0, NONE), NONE);
        refused("set, no setting", log -> log.set(3, 4), BAD_VALUE);
        refused("set, so already", log -> log.set(0, 12), NONE);
        refused("clearText of nothing", log -> log.clearText(), 0);
        refused("undo", log -> log.undo(), NONE);
        refused("restore", log -> log.restore(), NONE);
    }

    /** Three rows, a cell with two entries, an own sum, a text with a fault behind a row, a snapshot, three states. */
    private void refusedBySome() {
        List<Told.Call> calls = new ArrayList<>();
        typed(calls, "1,20,3,4;',',-,';5,',',0");
        calls.add(log -> log.addRows());
        calls.add(log -> log.keep());
        calls.add(log -> log.correct(1, 1, 30));
        calls.add(log -> log.claim(0, 80));
        calls.add(log -> log.clearText());
        typed(calls, "7,7,7,7;0,0,0,0,");
        made(calls);
        for (int i = 0; i < 4; i++) {
            int wrong = i;
            refused("addRow, wrong in " + i, log -> Logs.addRowWith(log, wrong, GREATEST[wrong] + 1), BAD_VALUE);
            refused("correct, wrong in " + i, log -> log.correct(0, wrong, GREATEST[wrong] + 1), BAD_VALUE);
        }
        refused("addRows, a fault behind a row", log -> log.addRows(), -115);
        refused("correct, no row", log -> log.correct(3, 0, 1), UNKNOWN);
        refused("correct, row -1", log -> log.correct(-1, 0, 1), UNKNOWN);
        refused("correct, no column", log -> log.correct(2, 4, 1), UNKNOWN);
        refused("correct, column -1", log -> log.correct(2, -1, 1), UNKNOWN);
        refused("correct, the same number", log -> log.correct(1, 1, 30), NONE);
        refused("correct, the same ditto", log -> log.correct(2, 1, DITTO), NONE);
        refused("correct, the same blank", log -> log.correct(1, 2, NONE), NONE);
        refused("takeBack, no row", log -> log.takeBack(3, 0), UNKNOWN);
        refused("takeBack, no column", log -> log.takeBack(1, 4), UNKNOWN);
        refused("takeBack, one entry", log -> log.takeBack(1, 0), NOT_POSSIBLE);
        refused("claim, watch -1", log -> log.claim(-1, 5), UNKNOWN);
        refused("claim, too great", log -> log.claim(0, 10000), BAD_VALUE);
        refused("claim, too small", log -> log.claim(0, -1), BAD_VALUE);
        refused("claim, the same", log -> log.claim(0, 80), NONE);
        for (int[] wrong : new int[][] {{-1, 4}, {0, 3}, {0, 13}, {1, -1}, {1, 2}, {2, 1}, {2, 7}, {3, 4}}) {
            refused("set(" + wrong[0] + ", " + wrong[1] + ")", log -> log.set(wrong[0], wrong[1]), BAD_VALUE);
        }
        for (int[] same : new int[][] {{0, 12}, {1, 0}, {2, 4}}) {
            refused("set(" + same[0] + ", " + same[1] + ")", log -> log.set(same[0], same[1]), NONE);
        }
    }

    private static void typed(List<Told.Call> calls, String text) {
        for (int i = 0; i < text.length(); i++) {
            char sign = text.charAt(i);
            calls.add(log -> log.type(sign));
        }
    }

    /** All rows, a cell with four entries, all own sums, a full text of rows, a snapshot, a full history. */
    private void refusedByFull() {
        made(full());
        refused("addRow", log -> log.addRow(0, 0, 0, 0), FULL);
        refused("addRow, wrong", log -> log.addRow(8, 0, 0, 0), BAD_VALUE);
        refused("addRows", log -> log.addRows(), FULL);
        refused("type", log -> log.type('0'), FULL);
        refused("correct", log -> log.correct(47, 3, 4), FULL);
        refused("correct, the same", log -> log.correct(47, 3, 3), FULL);
        refused("correct, wrong", log -> log.correct(47, 3, 10), BAD_VALUE);
        refused("correct, no row", log -> log.correct(48, 3, 4), UNKNOWN);
        refused("correct, no column", log -> log.correct(47, 4, 4), UNKNOWN);
        refused("correct, the same ditto", log -> log.correct(47, 2, DITTO), NONE);
        refused("takeBack", log -> log.takeBack(47, 2), NOT_POSSIBLE);
        refused("takeBack, no row", log -> log.takeBack(48, 3), UNKNOWN);
        refused("claim, no watch", log -> log.claim(24, 23), UNKNOWN);
        refused("claim, too great", log -> log.claim(23, 10000), BAD_VALUE);
        refused("claim, the same", log -> log.claim(23, 23), NONE);
        refused("set, the same", log -> log.set(2, 2), NONE);
        refused("set, too great", log -> log.set(2, 7), BAD_VALUE);
    }

    private static List<Told.Call> full() {
        List<Told.Call> calls = new ArrayList<>();
        typed(calls, "1,100,1,1;1,100,1,1;1,100,1,1;1,100,1,1;1,100,1,1;1,100,10,1");
        calls.add(log -> log.addRow(1, 100, 10, 1));
        for (int row = 1; row < 47; row++) {
            calls.add(log -> log.addRow(DITTO, DITTO, DITTO, DITTO));
        }
        calls.add(log -> log.keep());
        calls.add(log -> log.set(2, 2));
        for (int i = 0; i < 24; i++) {
            int watch = i;
            calls.add(log -> log.claim(watch, watch));
        }
        calls.add(log -> log.addRow(7, 199, DITTO, DITTO));
        for (int i = 1; i <= 3; i++) {
            int entry = i;
            calls.add(log -> log.correct(47, 3, entry));
        }
        return calls;
    }

    /** Also questions that are answered, the ones that try something out above all. */
    private void questionsChangeNothing() {
        made(full());
        refused("wouldChange", log -> log.wouldChange(0, 0, 5), 47);
        refused("wouldChange, a ditto", log -> log.wouldChange(47, 0, DITTO), 1);
        refused("wouldChange, four entries", log -> log.wouldChange(47, 3, 9), 1);
        refused("wouldChange, wrong", log -> log.wouldChange(47, 3, 10), BAD_VALUE);
        refused("wouldChange, no row", log -> log.wouldChange(48, 3, 9), UNKNOWN);
        refused("cell, no row", log -> log.cell(48, 0, 0), UNKNOWN);
        refused("cell, wrong", log -> log.cell(47, 0, 6), BAD_VALUE);
        refused("entry, wrong", log -> log.entry(47, 3, 4), BAD_VALUE);
        refused("isWritten, no row", log -> log.isWritten(48), UNKNOWN);
        refused("column, wrong", log -> log.column(3, 7), BAD_VALUE);
        refused("column", log -> log.column(1, 5), 100);
        refused("watch, no watch", log -> log.watch(24, 0), UNKNOWN);
        refused("watch, wrong", log -> log.watch(23, 7), BAD_VALUE);
        refused("watch", log -> log.watch(23, 2), 1);
        refused("run, to is less", log -> log.run(47, 46), BAD_VALUE);
        refused("north, to is less", log -> (long) log.north(47, 46), -9999);
        refused("east, no row", log -> (long) log.east(0, 48), -9999);
        refused("squareBits, to is less", log -> log.squareBits(47, 46), BAD_VALUE);
        refused("count, wrong", log -> log.count(12), BAD_VALUE);
    }
}
