/** Each promise of the document by its number: ordinary inputs, the edges that it names, and wrong inputs. */
public final class PromisesTest {
    private static final int UNKNOWN = -1;
    private static final int BAD = -2;
    private static final int FULL = -3;
    private static final int NOT_POSSIBLE = -4;
    private static final int NONE = -5;
    private static final int DITTO = -6;
    private static final int LEAST = Integer.MIN_VALUE;
    private static final int MOST = Integer.MAX_VALUE;
    private static final int[] MAX = {7, 199, 12, 9};

    private static final Check CHECK = new Check("promises");

    public static void main(String[] args) {
        newObject();
        addRow();
        addRows();
        faultsOfTexts();
        removeRow();
        correct();
        takeBack();
        claim();
        set();
        type();
        clearText();
        undo();
        undoOfEntries();
        keepAndRestore();
        cell();
        pages();
        entry();
        isWritten();
        column();
        watch();
        run();
        deadReckoning();
        squareBits();
        wouldChange();
        count();
        errorsChangeNothing();
        CHECK.end();
    }

    private static void same(String call, long got, long want) {
        CHECK.same(call, got, want);
    }

    private static void sameDouble(String call, double got, double want) {
        CHECK.sameDouble(call, got, want);
    }

    private static DittoLog filled(int rows) {
        DittoLog log = new DittoLog();
        for (int row = 0; row < rows; row++) {
            same("addRow to " + row, log.addRow(0, 10, 1, 2), row);
        }
        return log;
    }

    // ---- promise 1

    private static void newObject() {
        DittoLog log = new DittoLog();
        int[] due = {0, 0, 0, 0, 0, 0, 0, 12, 0, 4, 0, 0};
        for (int what = 0; what < due.length; what++) {
            same("new: count(" + what + ")", log.count(what), due[what]);
        }
        for (int column = 0; column < 4; column++) {
            for (int what = 0; what < 7; what++) {
                same("new: column(" + column + ", " + what + ")", log.column(column, what), what == 5 ? NONE : 0);
            }
        }
        for (int watch = 0; watch < 24; watch++) {
            same("new: claim", log.claim(watch, 1), 9995);
        }
        same("new: undo of the first claim still there", log.undo(), 3);
        log = new DittoLog();
        same("new: undo()", log.undo(), NONE);
        same("new: restore()", log.restore(), NONE);
        same("new: cell", log.cell(0, 0, 0), UNKNOWN);
        same("new: watch", log.watch(0, 0), UNKNOWN);
        same("new: addRows()", log.addRows(), -100);
    }

    // ---- promise 2

    private static void addRow() {
        DittoLog log = new DittoLog();
        same("least numbers", log.addRow(0, 0, 0, 0), 0);
        same("greatest numbers", log.addRow(7, 199, 12, 9), 1);
        same("blanks", log.addRow(NONE, NONE, NONE, NONE), 2);
        same("dittos", log.addRow(DITTO, DITTO, DITTO, DITTO), 3);
        for (int column = 0; column < 4; column++) {
            for (int wrong : new int[] {MAX[column] + 1, -1, -4, -7, LEAST, MOST}) {
                int[] e = {0, 0, 0, 0};
                e[column] = wrong;
                same("addRow with " + wrong, log.addRow(e[0], e[1], e[2], e[3]), BAD);
            }
            same("greatest of " + column, log.cell(1, column, 0), MAX[column]);
            same("blank of " + column, log.entry(2, column, 0), NONE);
            same("ditto of " + column, log.entry(3, column, 0), DITTO);
        }
        same("wrong ones add nothing", log.count(0), 4);
        same("wrong ones are not recorded", log.count(10), 4);
        log = filled(48);
        same("one too many", log.addRow(0, 0, 0, 0), FULL);
        same("one too many, and wrong", log.addRow(0, 0, 0, 10), BAD);
        same("48 rows", log.count(0), 48);
    }

    // ---- promise 3

    private static void addRows() {
        DittoLog log = new DittoLog();
        Logs.typeText(log, "0,0,0,0;7,199,12,9;-,-,-,-;',',','");
        same("addRows() of four", log.addRows(), 4);
        same("it is one act", log.count(10), 1);
        same("the text stays", log.count(11), 34);
        same("row 1, course", log.cell(1, 0, 0), 7);
        same("row 1, speed", log.cell(1, 1, 0), 199);
        same("row 1, wind", log.cell(1, 2, 0), 12);
        same("row 1, keeper", log.cell(1, 3, 0), 9);
        same("row 2 is blank", log.entry(2, 3, 0), NONE);
        same("row 3 is ditto", log.entry(3, 0, 0), DITTO);
        same("addRows() again", log.addRows(), 4);
        same("eight rows", log.count(0), 8);
        same("undo takes four", log.undo(), 1);
        same("four rows", log.count(0), 4);

        log = filled(41);
        Logs.typeText(log, "-,-,-,-;-,-,-,-;-,-,-,-;-,-,-,-;-,-,-,-;-,-,-,-;-,-,-,-");
        same("seven rows up to 48", log.addRows(), 7);
        same("seven rows more", log.addRows(), FULL);
        same("none of them is added", log.count(0), 48);
        log.removeRow();
        same("removed one", log.count(0), 47);
        same("seven rows, room for one", log.addRows(), FULL);
        same("none is added", log.count(0), 47);
        Logs.typeText(log, "-,-,-,-;");
        same("a fault goes ahead of FULL", log.addRows(), -108);
        Logs.typeText(log, "1,2,3,4");
        same("one row, room for one", log.addRows(), 1);
        same("one row, room for none", log.addRows(), FULL);
        same("after removal only the new entry counts", log.cell(47, 1, 2), 1);
    }

    private static void faultsOfTexts() {
        String[] texts = {
            "", "8", "0", "00", "01,", "10", "-1", "'1", "--", "'-", "0-", "0'", ",", ";", " 0", "0;",
            "0,", "0,199", "0,200", "0,1999", "0,20,", "0,200,", "0,09", "0,0", "0,,", "0,0,12", "0,0,13", "0,0,100",
            "0,0,0,9", "0,0,0,10", "0,0,0,0,", "0,0,0,0;", "0,0,0,0;;", "0,0,0,0;8", "0,0,0;", "0,0,0", "0,0,0,",
            "0,0,0,0;0,0,0,0", "a", "0,\u00e9", "0,\u0661", "0,0,0,0 ", "/", ":", "0,19:", "-,-,-,-;-", "0,-,1,'",
        };
        int[] faults = {
            0, 0, 1, 1, 1, 1, 1, 1, 1, 1, 1, 1, 0, 0, 0, 1,
            2, 5, 4, 5, 5, 4, 3, 3, 2, 6, 5, 6,
            -1, 7, 7, 8, 8, 8, 5, 5, 6,
            -2, 0, 2, 2, 7, 0, 0, 4, 9, -1,
        };
        for (int i = 0; i < texts.length; i++) {
            DittoLog log = new DittoLog();
            Logs.typeText(log, texts[i]);
            int want = faults[i] < 0 ? -faults[i] : -100 - faults[i];
            same("addRows() of \"" + texts[i] + "\"", log.addRows(), want);
            same("rows by \"" + texts[i] + "\"", log.count(0), Math.max(0, want));
            same("states by \"" + texts[i] + "\"", log.count(10), want > 0 ? 1 : 0);
        }
        DittoLog log = new DittoLog();
        Logs.typeText(log, "0,100,10,0;0,100,10,0;0,100,10,0;0,100,10,0;0,100,10,0;0,100");
        same("a full text is at 60", log.count(11), 60);
        same("the fault of a full text", log.addRows(), -160);
    }

    // ---- promise 4

    private static void removeRow() {
        DittoLog log = new DittoLog();
        same("nothing to remove", log.removeRow(), NOT_POSSIBLE);
        same("no state by it", log.count(10), 0);
        log = Logs.withRows("1,2,3,4", "5,6,7,8");
        log.correct(1, 1, 9);
        log.correct(1, 1, 10);
        same("removeRow()", log.removeRow(), 1);
        same("the row is gone", log.cell(1, 1, 0), UNKNOWN);
        same("no corrections are left", log.count(2), 0);
        same("a new row there", log.addRow(0, 20, 0, 0), 1);
        same("has one entry", log.cell(1, 1, 2), 1);
        same("its own", log.entry(1, 1, 0), 20);
        same("removeRow() again", log.removeRow(), 1);
        same("a row of dittos", log.addRow(DITTO, DITTO, DITTO, DITTO), 1);
        log.correct(1, 0, 1);
        log.correct(1, 0, DITTO);
        same("removeRow() of dittos", log.removeRow(), 1);
        same("nothing is below", log.cell(0, 0, 5), 0);
        same("nothing would change below", log.wouldChange(0, 0, 7), 1);
        same("nothing is doubtful", log.count(3), 0);
        same("no dittos", log.count(1), 0);
        same("no dittos in the column", log.column(0, 0), 0);
        same("nothing doubtful in the column", log.column(0, 6), 0);
        same("removeRow() of the last one", log.removeRow(), 0);
        same("removeRow() of none", log.removeRow(), NOT_POSSIBLE);
        same("undo()", log.undo(), 3);
        same("the row is back", log.cell(0, 3, 0), 4);
        same("undo()", log.undo(), 2);
        same("the row of dittos is back", log.cell(1, 0, 2), 3);
    }

    // ---- promise 5

    private static void correct() {
        DittoLog log = Logs.withRows("1,50,3,4", "',',','", "',',-,5", "2,',','");
        same("a number with two below", log.correct(0, 0, 3), 3);
        same("the same meaning by a ditto", log.correct(1, 0, 3), 0);
        same("the chain is cut", log.correct(0, 0, 4), 1);
        same("a blank over three below", log.correct(0, 1, NONE), 4);
        same("a number again", log.correct(0, 1, 0), 4);
        same("a blank to a ditto in the row 0", log.correct(0, 1, NONE), 4);
        same("four entries", log.correct(0, 1, 5), FULL);
        same("four entries, the same", log.correct(0, 1, NONE), FULL);
        same("four entries, out of range", log.correct(0, 1, 200), BAD);
        same("the same", log.correct(3, 0, 2), NONE);
        same("the same ditto", log.correct(1, 2, DITTO), NONE);
        same("the same blank", log.correct(2, 2, NONE), NONE);
        same("a ditto in the row 0", log.correct(0, 3, DITTO), 2);
        same("it means nothing there", log.cell(1, 3, 0), NONE);
        for (int column = 0; column < 4; column++) {
            same("greatest + 1", log.correct(0, column, MAX[column] + 1), BAD);
            same("-1", log.correct(0, column, -1), BAD);
            same("-7", log.correct(0, column, -7), BAD);
        }
        same("greatest", log.correct(3, 2, 12), 1);
        for (int wrong : new int[] {-1, 4, LEAST, MOST, 1 << 30}) {
            same("row " + wrong, log.correct(wrong, 0, 0), UNKNOWN);
            same("column " + wrong, log.correct(0, wrong, 0), UNKNOWN);
            same("row goes ahead of the entry", log.correct(wrong, 0, 99), UNKNOWN);
        }
        log = Logs.withRows("-,-,-,-", "',',','");
        same("nothing by a ditto in place of a blank", log.correct(0, 0, DITTO), 0);
        same("nothing by a blank in place of a ditto", log.correct(1, 1, NONE), 0);
        log = Logs.withRows("1,1,1,1", "2,2,2,2", "',',','");
        same("a ditto that leans on another number", log.correct(1, 0, DITTO), 2);
        same("the source is the row 0", log.cell(2, 0, 1), 0);
        same("the source alone does not count", log.correct(2, 0, 1), 0);
        same("an act even so", log.count(10), 4);
        same("undo()", log.undo(), 3);
        same("the entry is gone", log.cell(2, 0, 2), 1);
    }

    // ---- promise 6

    private static void takeBack() {
        DittoLog log = Logs.withRows("1,50,3,4", "',',','");
        same("one entry", log.takeBack(0, 0), NOT_POSSIBLE);
        log.correct(0, 0, 2);
        log.correct(0, 0, DITTO);
        same("nothing to 2", log.takeBack(0, 0), 2);
        same("the entry ahead counts", log.cell(1, 0, 0), 2);
        same("2 to 1", log.takeBack(0, 0), 2);
        same("back to one entry", log.cell(0, 0, 2), 1);
        same("one entry again", log.takeBack(0, 0), NOT_POSSIBLE);
        log.correct(1, 0, 1);
        same("the same meaning", log.takeBack(1, 0), 0);
        same("it is a ditto again", log.entry(1, 0, 0), DITTO);
        for (int wrong : new int[] {-1, 4, LEAST, MOST}) {
            same("row " + wrong, log.takeBack(wrong, 0), UNKNOWN);
            same("column " + wrong, log.takeBack(0, wrong), UNKNOWN);
        }
        same("row 2", log.takeBack(2, 0), UNKNOWN);
        same("undo()", log.undo(), 3);
        same("the correction is back", log.entry(1, 0, 1), 1);
        log = Logs.withRows("1,50,3,4", "7,',3,4");
        log.correct(1, 0, 5);
        log.correct(1, 0, 7);
        log.correct(1, 0, 5);
        same("to a 7", log.takeBack(1, 0), 1);
        same("to a 5", log.takeBack(1, 0), 1);
        same("to the 7 of the first entry", log.takeBack(1, 0), 1);
        log.correct(1, 0, DITTO);
        log.correct(1, 0, 1);
        same("to a ditto that means as much", log.takeBack(1, 0), 0);
    }

    // ---- promise 7

    private static void claim() {
        DittoLog log = filled(5);
        same("blank already", log.claim(0, NONE), NONE);
        same("0", log.claim(0, 0), 9995);
        same("0 already", log.claim(0, 0), NONE);
        same("9999", log.claim(0, 9999), 10000);
        same("blank", log.claim(0, NONE), 19999);
        same("watch without rows", log.claim(23, 17), 9995);
        same("again", log.claim(23, 18), 10017);
        for (int wrong : new int[] {-1, 24, LEAST, MOST}) {
            same("watch " + wrong, log.claim(wrong, 0), UNKNOWN);
            same("watch goes ahead of the sum", log.claim(wrong, -1), UNKNOWN);
        }
        for (int wrong : new int[] {-1, -4, DITTO, -7, 10000, LEAST, MOST}) {
            same("sum " + wrong, log.claim(0, wrong), BAD);
        }
        same("undo()", log.undo(), 3);
        same("17 is back", log.claim(23, NONE), 10017);
    }

    // ---- promise 8

    private static void set() {
        DittoLog log = new DittoLog();
        int[] first = {12, 0, 4};
        int[] least = {4, 0, 2};
        int[] greatest = {12, 1, 6};
        for (int which = 0; which < 3; which++) {
            same("as at first " + which, log.set(which, first[which]), NONE);
            same("too little " + which, log.set(which, least[which] - 1), BAD);
            same("too much " + which, log.set(which, greatest[which] + 1), BAD);
            same("much too little " + which, log.set(which, LEAST), BAD);
            same("much too much " + which, log.set(which, MOST), BAD);
        }
        same("nothing is recorded", log.count(10), 0);
        same("4 rows a page", log.set(0, 4), 12);
        same("12 rows a page", log.set(0, 12), 4);
        same("stops", log.set(1, 1), 0);
        same("stops no more", log.set(1, 0), 1);
        same("2 rows a watch", log.set(2, 2), 4);
        same("6 rows a watch", log.set(2, 6), 2);
        same("6 already", log.set(2, 6), NONE);
        for (int wrong : new int[] {-1, 3, LEAST, MOST}) {
            for (int value : new int[] {-5, -1, 0, 1, 4, 6, 12}) {
                same("which " + wrong, log.set(wrong, value), BAD);
            }
        }
        same("undo()", log.undo(), 3);
        same("2 is back", log.count(9), 2);
    }

    // ---- promises 9 and 10

    private static void type() {
        DittoLog log = new DittoLog();
        for (int i = 1; i <= 60; i++) {
            same("type", log.type((char) (i * 1000)), i);
        }
        same("the 61st", log.type('0'), FULL);
        same("the text is at 60", log.count(11), 60);
        same("typing is not recorded", log.count(10), 0);
        same("undo() has nothing", log.undo(), NONE);
        log.clearText();
        same("any character", log.type((char) 0), 1);
        same("any character", log.type((char) 65535), 2);
    }

    private static void clearText() {
        DittoLog log = new DittoLog();
        same("empty", log.clearText(), 0);
        Logs.typeText(log, "1,2,3,4");
        same("seven", log.clearText(), 7);
        same("empty again", log.clearText(), 0);
        same("no text is left", log.addRows(), -100);
        same("the next is the first", log.type('1'), 1);
        same("clearing is not recorded", log.count(10), 0);
    }

    // ---- promise 11

    private static void undo() {
        DittoLog log = new DittoLog();
        for (int row = 0; row < 7; row++) {
            log.addRow(row, row, row, row);
            same("states", log.count(10), Math.min(4, row + 1));
        }
        for (int left = 3; left >= 0; left--) {
            same("undo()", log.undo(), left);
            same("rows", log.count(0), left + 3);
        }
        same("the oldest ones are dropped", log.undo(), NONE);
        same("three rows stay", log.count(0), 3);
        log.set(2, 3);
        log.set(1, 1);
        log.claim(4, 44);
        log.correct(1, 1, 77);
        Logs.typeText(log, "12");
        log.keep();
        same("undo of correct", log.undo(), 3);
        same("one entry", log.cell(1, 1, 2), 1);
        same("undo of claim", log.undo(), 2);
        same("undo of set", log.undo(), 1);
        same("dittos go over pages", log.count(8), 0);
        same("undo of set", log.undo(), 0);
        same("4 rows a watch", log.count(9), 4);
        same("the text is not undone", log.count(11), 2);
        same("blank is restored", log.claim(4, 5), 9995);
        same("the snapshot is not undone", log.restore(), 3);
        same("the snapshot has the correction", log.cell(1, 1, 0), 77);
        same("the snapshot has the sum", log.claim(4, NONE), 10044);
        same("after undo another act", log.undo(), 2);
        same("of sum", log.claim(4, 44), NONE);
    }

    private static void undoOfEntries() {
        DittoLog log = Logs.withRows("0,0,0,0", "1,1,1,1", "2,2,2,2");
        log.correct(2, 2, 12);
        log.correct(2, 2, 11);
        same("undo()", log.undo(), 3);
        same("12 is back", log.cell(2, 2, 0), 12);
        log.removeRow();
        log.addRow(5, 6, 7, 8);
        same("undo of addRow", log.undo(), 3);
        same("undo of removeRow", log.undo(), 2);
        same("the old course", log.cell(2, 0, 0), 2);
        same("the old wind", log.entry(2, 2, 0), 2);
        same("its correction", log.entry(2, 2, 1), 12);
        log.takeBack(2, 2);
        log.correct(2, 2, 10);
        same("10 in place of 12", log.cell(2, 2, 0), 10);
        same("undo of correct", log.undo(), 3);
        same("undo of takeBack", log.undo(), 2);
        same("12 again", log.cell(2, 2, 0), 12);
        log.keep();
        log.removeRow();
        log.addRow(5, 6, 7, 8);
        same("restore()", log.restore(), 3);
        same("12 again", log.cell(2, 2, 0), 12);
        same("2 again", log.cell(2, 1, 0), 2);
        same("undo of restore", log.undo(), 3);
        same("7", log.cell(2, 2, 0), 7);
    }

    // ---- promises 12 and 13

    private static void keepAndRestore() {
        DittoLog log = new DittoLog();
        same("no snapshot", log.restore(), NONE);
        same("nothing is recorded", log.count(10), 0);
        same("a snapshot of no rows", log.keep(), 0);
        same("restored, though all is so", log.restore(), 0);
        same("it is an act", log.count(10), 1);
        log.addRow(1, 100, 1, 1);
        log.addRow(DITTO, DITTO, DITTO, DITTO);
        log.claim(0, 200);
        log.set(1, 1);
        same("keep() is no act", log.keep(), 2);
        same("four states", log.count(10), 4);
        log.correct(0, 1, 90);
        log.removeRow();
        log.claim(0, 190);
        log.set(1, 0);
        log.set(0, 5);
        log.set(2, 5);
        Logs.typeText(log, "abc");
        same("restore()", log.restore(), 2);
        same("states stay at four", log.count(10), 4);
        same("the text stays", log.count(11), 3);
        same("speed", log.cell(1, 1, 0), 100);
        same("entries", log.cell(0, 1, 2), 1);
        same("own sum", log.watch(0, 3), 200);
        same("rows of a page", log.count(7), 12);
        same("stops", log.count(8), 1);
        same("rows of a watch", log.count(9), 4);
        log.correct(1, 1, 80);
        same("the snapshot stays", log.restore(), 2);
        same("and is not touched", log.cell(1, 1, 0), 100);
        same("undo of restore", log.undo(), 3);
        same("80 again", log.cell(1, 1, 0), 80);
        same("a second snapshot", log.keep(), 2);
        log.removeRow();
        same("in place of the first", log.restore(), 2);
        same("80 again", log.cell(1, 1, 0), 80);
    }

    // ---- promise 14

    private static void cell() {
        DittoLog log = Logs.withRows("',10,-,0", "',',',9", "3,',',-", "',0,','", "',',5,4");
        int[] courses = {NONE, NONE, 3, 3, 3};
        int[] courseSources = {NONE, NONE, 2, 2, 2};
        int[] courseChains = {1, 2, 1, 2, 3};
        int[] courseFollowers = {1, 0, 2, 1, 0};
        for (int row = 0; row < 5; row++) {
            same("course of " + row, log.cell(row, 0, 0), courses[row]);
            same("source of " + row, log.cell(row, 0, 1), courseSources[row]);
            same("chain of " + row, log.cell(row, 0, 3), courseChains[row]);
            same("below " + row, log.cell(row, 0, 5), courseFollowers[row]);
        }
        same("speed", log.cell(2, 1, 0), 10);
        same("its source", log.cell(2, 1, 1), 0);
        same("a written 0", log.cell(4, 1, 0), 0);
        same("its source", log.cell(4, 1, 1), 3);
        same("a ditto of a blank", log.cell(3, 2, 0), NONE);
        same("has no source", log.cell(3, 2, 1), NONE);
        same("but a chain", log.cell(3, 2, 3), 4);
        same("three below", log.cell(0, 2, 5), 3);
        same("keeper 0", log.cell(0, 3, 0), 0);
        same("its source", log.cell(0, 3, 1), 0);
        same("not doubtful", log.cell(2, 1, 4), 0);
        log.correct(1, 1, 20);
        log.correct(1, 1, DITTO);
        same("three entries", log.cell(1, 1, 2), 3);
        same("above a correction", log.cell(0, 1, 4), 0);
        same("corrected", log.cell(1, 1, 4), 1);
        same("below a correction", log.cell(2, 1, 4), 1);
        same("below, but written", log.cell(3, 1, 4), 0);
        for (int wrong : new int[] {-1, 5, LEAST, MOST, 1 << 30}) {
            same("row " + wrong, log.cell(wrong, 0, 0), UNKNOWN);
            same("column " + wrong, log.cell(0, wrong, 0), UNKNOWN);
            same("row goes ahead of what", log.cell(wrong, 0, 6), UNKNOWN);
        }
        same("column 4", log.cell(0, 4, 0), UNKNOWN);
        for (int wrong : new int[] {-1, 6, LEAST, MOST}) {
            same("what " + wrong, log.cell(0, 0, wrong), BAD);
        }
    }

    private static void pages() {
        DittoLog log = filled(1);
        for (int row = 1; row < 14; row++) {
            log.addRow(DITTO, DITTO, DITTO, DITTO);
        }
        same("over the page", log.cell(13, 1, 0), 10);
        same("from the row 0", log.cell(13, 1, 1), 0);
        same("the whole column", log.column(1, 4), 14);
        log.set(1, 1);
        same("last of the page", log.cell(11, 1, 0), 10);
        same("first of the next", log.cell(12, 1, 0), NONE);
        same("second of the next", log.cell(13, 1, 0), NONE);
        same("without source", log.cell(13, 1, 1), NONE);
        same("its chain ends there", log.cell(13, 1, 3), 2);
        same("twelve", log.column(1, 4), 12);
        same("eleven below the first", log.cell(0, 1, 5), 11);
        log.correct(0, 1, 30);
        same("doubt ends at the page", log.column(1, 6), 12);
        same("a ditto at the page may be corrected", log.correct(12, 1, NONE), 0);
        same("to a number", log.wouldChange(12, 1, 7), 2);
        log.set(0, 5);
        same("twelve is not first now", log.wouldChange(12, 1, DITTO), 0);
        same("five a page", log.cell(5, 2, 3), 1);
        same("five a page", log.cell(9, 2, 3), 5);
        log.set(1, 0);
        same("over pages again", log.wouldChange(12, 1, DITTO), 2);
    }

    // ---- promise 15

    private static void entry() {
        DittoLog log = Logs.withRows("1,199,-,'");
        log.correct(0, 1, NONE);
        log.correct(0, 1, DITTO);
        log.correct(0, 1, 3);
        int[] due = {199, NONE, DITTO, 3};
        for (int rank = 0; rank < 4; rank++) {
            same("rank " + rank, log.entry(0, 1, rank), due[rank]);
        }
        same("blank", log.entry(0, 2, 0), NONE);
        same("ditto", log.entry(0, 3, 0), DITTO);
        same("rank 4", log.entry(0, 1, 4), BAD);
        same("rank 1 of one", log.entry(0, 0, 1), BAD);
        for (int wrong : new int[] {-1, 4, LEAST, MOST, 1 << 30}) {
            same("rank " + wrong, log.entry(0, 1, wrong), BAD);
            same("row " + wrong, log.entry(wrong, 1, 0), UNKNOWN);
            same("column " + wrong, log.entry(0, wrong, 9), UNKNOWN);
        }
        log.takeBack(0, 1);
        same("taken back", log.entry(0, 1, 3), BAD);
    }

    // ---- promise 16

    private static void isWritten() {
        DittoLog log = Logs.withRows("0,0,0,0", "',0,0,0", "0,-,0,0", "0,0,',0", "0,0,0,-");
        int[] due = {1, 0, 0, 0, 0};
        for (int row = 0; row < 5; row++) {
            same("isWritten(" + row + ")", log.isWritten(row), due[row]);
        }
        log.correct(0, 0, NONE);
        log.correct(4, 3, 1);
        same("a blank came above", log.isWritten(0), 0);
        same("a number came above", log.isWritten(4), 1);
        for (int wrong : new int[] {-1, 5, LEAST, MOST}) {
            same("isWritten(" + wrong + ")", log.isWritten(wrong), UNKNOWN);
        }
    }

    // ---- promise 17

    private static void column() {
        same("the longest of one row", Logs.withRows("',0,0,0").column(0, 4), 1);
        DittoLog log = Logs.withRows("',199,1,-", "5,',1,-", "2,',0,-", "',-,0,-", "5,',','");
        int[][] due = {
            {2, 0, 0, 1, 2, 2, 0},
            {3, 1, 0, 2, 3, 199, 0},
            {1, 0, 0, 0, 2, 0, 0},
            {1, 4, 0, 5, 2, NONE, 0},
        };
        for (int column = 0; column < 4; column++) {
            for (int what = 0; what < 7; what++) {
                same("column(" + column + ", " + what + ")", log.column(column, what), due[column][what]);
            }
        }
        log.correct(0, 1, DITTO);
        log.correct(0, 1, 7);
        log.correct(3, 1, 7);
        same("corrections", log.column(1, 2), 3);
        same("dittos", log.column(1, 0), 3);
        same("no blank", log.column(1, 1), 0);
        same("doubtful", log.column(1, 6), 5);
        same("the most", log.column(1, 5), 7);
        log.correct(2, 0, NONE);
        same("5 and nothing", log.column(0, 5), 5);
        log = Logs.withRows("3,0,0,0", "4,0,0,0", "4,0,0,0", "3,0,0,0", "2,1,1,1", "1,1,1,1", "3,1,1,1", "4,1,1,1");
        same("of 3 and 4 the lesser", log.column(0, 5), 3);
        log.addRow(4, 1, 1, 1);
        same("the last row makes it 4", log.column(0, 5), 4);
        log.correct(8, 0, 3);
        same("the last row makes it 3", log.column(0, 5), 3);
        log.correct(0, 0, 4);
        same("the first row makes it 4", log.column(0, 5), 4);
        for (int wrong : new int[] {-1, 4, LEAST, MOST}) {
            same("column " + wrong, log.column(wrong, 0), UNKNOWN);
            same("column goes ahead of what", log.column(wrong, 7), UNKNOWN);
        }
        for (int wrong : new int[] {-1, 7, LEAST, MOST}) {
            same("what " + wrong, log.column(0, wrong), BAD);
        }
    }

    // ---- promise 18

    private static void watch() {
        DittoLog log = Logs.withRows("0,100,1,5", "',',',3", "-,-,',3", "',',',5", "',20,',-", "',',','");
        int[][] due = {{4, 200, 3, NONE, NONE, 2, 0}, {2, 40, NONE, NONE, NONE, 0, 0}};
        for (int watch = 0; watch < 2; watch++) {
            for (int what = 0; what < 7; what++) {
                same("watch(" + watch + ", " + what + ")", log.watch(watch, what), due[watch][what]);
            }
        }
        log.claim(0, 201);
        log.claim(1, 9999);
        same("own sum", log.watch(0, 3), 201);
        same("run less own sum", log.watch(0, 4), 9999);
        same("run less the greatest", log.watch(1, 4), 41);
        log.claim(1, 0);
        same("own sum 0", log.watch(1, 3), 0);
        same("run less 0", log.watch(1, 4), 10040);
        log.correct(0, 2, 4);
        log.correct(4, 1, 30);
        same("doubtful ones of watch 0", log.watch(0, 6), 4);
        same("doubtful ones of watch 1", log.watch(1, 6), 4);
        log.correct(4, 3, 2);
        same("keeper by ditto", log.watch(1, 2), 2);
        same("no watch 2", log.watch(2, 0), UNKNOWN);
        log.set(2, 5);
        same("five rows", log.watch(0, 0), 5);
        same("one row", log.watch(1, 0), 1);
        same("its run", log.watch(1, 1), 30);
        same("sums stay by the watch", log.watch(1, 3), 0);
        log.set(2, 6);
        same("six rows", log.watch(0, 0), 6);
        same("no watch 1", log.watch(1, 0), UNKNOWN);
        log.set(2, 2);
        same("three watches", log.watch(2, 0), 2);
        same("keeper of several: the lowest", log.watch(1, 2), 3);
        for (int wrong : new int[] {-1, 3, 24, LEAST, MOST}) {
            same("watch " + wrong, log.watch(wrong, 0), UNKNOWN);
            same("watch goes ahead of what", log.watch(wrong, 7), UNKNOWN);
        }
        for (int wrong : new int[] {-1, 7, LEAST, MOST}) {
            same("what " + wrong, log.watch(0, wrong), BAD);
        }
        log = filled(48);
        log.set(2, 2);
        same("the last of 24", log.watch(23, 1), 20);
        same("no watch 24", log.watch(24, 1), UNKNOWN);
    }

    // ---- promise 19

    private static void run() {
        DittoLog log = Logs.withRows("0,100,1,5", "',',',3", "-,-,',3", "',7,',5");
        same("all", log.run(0, 3), 207);
        same("one", log.run(3, 3), 7);
        same("by ditto from above", log.run(1, 2), 100);
        same("none", log.run(2, 2), 0);
        same("from behind", log.run(1, 0), BAD);
        for (int wrong : new int[] {-1, 4, LEAST, MOST}) {
            same("from " + wrong, log.run(wrong, 0), UNKNOWN);
            same("to " + wrong, log.run(0, wrong), UNKNOWN);
            same("both " + wrong, log.run(wrong, wrong), UNKNOWN);
        }
        log = new DittoLog();
        for (int row = 0; row < 48; row++) {
            log.addRow(0, 199, 0, 0);
        }
        same("the longest", log.run(0, 47), 9552);
    }

    // ---- promises 20 and 21

    private static void deadReckoning() {
        double[] north = {1.0, 0.7071, 0.0, -0.7071, -1.0, -0.7071, 0.0, 0.7071};
        double[] east = {0.0, 0.7071, 1.0, 0.7071, 0.0, -0.7071, -1.0, -0.7071};
        DittoLog log = new DittoLog();
        double northward = 0.0;
        double eastward = 0.0;
        for (int course = 0; course < 8; course++) {
            int speed = 137 + course;
            log.addRow(course, speed, 0, 0);
            sameDouble("north of " + course, log.north(course, course), 0.0 + speed / 10.0 * north[course]);
            sameDouble("east of " + course, log.east(course, course), 0.0 + speed / 10.0 * east[course]);
            northward += speed / 10.0 * north[course];
            eastward += speed / 10.0 * east[course];
            sameDouble("north up to " + course, log.north(0, course), northward);
            sameDouble("east up to " + course, log.east(0, course), eastward);
        }
        log = Logs.withRows("0,100,1,5", "',',',3", "-,',',3", "4,-,',5", "2,0,',5", "3,30,',5");
        sameDouble("rows that count", log.north(0, 4), 20.0);
        sameDouble("a blank course", log.north(2, 2), 0.0);
        sameDouble("a blank speed", log.north(3, 3), 0.0);
        sameDouble("by ditto", log.north(1, 1), 10.0);
        sameDouble("south-east, north", log.north(5, 5), 3.0 * -0.7071);
        sameDouble("south-east, east", log.east(5, 5), 3.0 * 0.7071);
        sameDouble("from behind, north", log.north(1, 0), -9999.0);
        sameDouble("from behind, east", log.east(1, 0), -9999.0);
        for (int wrong : new int[] {-1, 6, LEAST, MOST}) {
            sameDouble("north from " + wrong, log.north(wrong, 0), -9999.0);
            sameDouble("north to " + wrong, log.north(0, wrong), -9999.0);
            sameDouble("east from " + wrong, log.east(wrong, 0), -9999.0);
            sameDouble("east to " + wrong, log.east(0, wrong), -9999.0);
        }
    }

    // ---- promise 22

    private static void squareBits() {
        for (int speed = 0; speed < 200; speed++) {
            DittoLog log = new DittoLog();
            double sum = 0.0;
            for (int row = 0; row < 48; row += 47) {
                log.addRow(0, speed, 0, 0);
                sum += speed / 10.0;
                int last = log.count(0) - 1;
                same("north at " + speed, log.squareBits(0, last), Float.floatToIntBits((float) (sum * sum)));
            }
        }
        DittoLog log = new DittoLog();
        same("a first row", log.addRow(1, 3, 0, 0), 0);
        log.addRow(1, 1, 0, 0);
        log.addRow(5, 4, 0, 0);
        double north = 0.0 + 3 / 10.0 * 0.7071 + 1 / 10.0 * 0.7071 + 4 / 10.0 * -0.7071;
        float square = (float) (north * north + north * north);
        same("what rounding leaves", log.squareBits(0, 2), Float.floatToIntBits(square));
        log.addRow(NONE, 4, 0, 0);
        same("nothing", log.squareBits(3, 3), 0);
        same("one knot", Logs.withRows("6,10,0,0").squareBits(0, 0), 0x3f800000);
        same("two knots", Logs.withRows("4,20,0,0").squareBits(0, 0), 0x40800000);
        same("from behind", log.squareBits(1, 0), BAD);
        for (int wrong : new int[] {-1, 4, LEAST, MOST}) {
            same("from " + wrong, log.squareBits(wrong, 0), UNKNOWN);
            same("to " + wrong, log.squareBits(0, wrong), UNKNOWN);
        }
        log = new DittoLog();
        for (int row = 0; row < 48; row++) {
            log.addRow(2, 199, 0, 0);
        }
        double east = 0.0;
        for (int row = 0; row < 48; row++) {
            east += 199 / 10.0;
        }
        same("the farthest", log.squareBits(0, 47), Float.floatToIntBits((float) (east * east)));
        squareBitsOfTwo();
    }

    /** Short ways and courses that nearly cancel out, so that small floats come up, and some just above 2, 4, 8 .. */
    private static void squareBitsOfTwo() {
        for (int first = 0; first < 20; first++) {
            for (int second = 0; second < 200; second += second < 20 ? 1 : 7) {
                DittoLog log = new DittoLog();
                log.addRow(1, first, 0, 0);
                for (int course = 0; course < 8; course++) {
                    log.addRow(course, second, 0, 0);
                    double north = log.north(0, course + 1);
                    double east = log.east(0, course + 1);
                    float square = (float) (north * north + east * east);
                    same("the square", log.squareBits(0, course + 1), Float.floatToIntBits(square));
                }
            }
        }
        same("45.3 miles", Logs.withRows("0,199,0,0", "0,199,0,0", "0,55,0,0").squareBits(0, 2),
            Float.floatToIntBits((float) ((19.9 + 19.9 + 5.5) * (19.9 + 19.9 + 5.5))));
    }

    // ---- promise 23

    private static void wouldChange() {
        DittoLog log = Logs.withRows("1,50,3,4", "',',','", "',',-,5", "2,',','");
        same("a number", log.wouldChange(0, 0, 3), 3);
        same("the same", log.wouldChange(0, 0, 1), 0);
        same("a blank", log.wouldChange(0, 1, NONE), 4);
        same("a ditto in the row 0", log.wouldChange(0, 1, DITTO), 4);
        same("a ditto that means another", log.wouldChange(3, 0, DITTO), 1);
        same("the same ditto", log.wouldChange(1, 1, DITTO), 0);
        same("what the ditto means", log.wouldChange(1, 1, 50), 0);
        same("nothing changes by it", log.cell(3, 1, 0), 50);
        same("no entry comes by it", log.count(2), 0);
        same("no state comes by it", log.count(10), 4);
        log.correct(0, 1, 1);
        log.correct(0, 1, 2);
        log.correct(0, 1, 3);
        same("four entries", log.wouldChange(0, 1, 4), 4);
        same("four entries, the same", log.wouldChange(0, 1, 3), 0);
        for (int column = 0; column < 4; column++) {
            same("greatest + 1", log.wouldChange(0, column, MAX[column] + 1), BAD);
            same("-1", log.wouldChange(0, column, -1), BAD);
            same("-7", log.wouldChange(0, column, -7), BAD);
        }
        for (int wrong : new int[] {-1, 4, LEAST, MOST}) {
            same("row " + wrong, log.wouldChange(wrong, 0, 0), UNKNOWN);
            same("column " + wrong, log.wouldChange(0, wrong, 300), UNKNOWN);
        }
    }

    // ---- promise 24

    private static void count() {
        DittoLog log = Logs.withRows("0,100,1,5", "',',',3", "-,-,',3", "1,7,3,5", "',20,',-");
        log.correct(1, 1, 5);
        log.correct(1, 1, DITTO);
        log.correct(0, 2, 2);
        log.set(2, 2);
        log.set(0, 7);
        log.set(1, 1);
        log.claim(0, 200);
        log.claim(1, 8);
        log.claim(2, 20);
        log.claim(3, 20);
        log.undo();
        Logs.typeText(log, "xyz");
        int[] due = {5, 6, 3, 4, 2, 3, 1, 7, 1, 2, 3, 3};
        for (int what = 0; what < due.length; what++) {
            same("count(" + what + ")", log.count(what), due[what]);
        }
        log.claim(0, 1);
        same("two wrong sums", log.count(6), 2);
        log.claim(0, NONE);
        same("a blank one is none of them", log.count(6), 1);
        log.claim(0, 1);
        log.set(2, 6);
        same("sums of watches without rows are none", log.count(6), 1);
        same("one watch", log.count(5), 1);
        log = Logs.withRows("',0,0,'", "1,',',1");
        log.correct(0, 0, 1);
        log.correct(1, 3, 2);
        log.correct(1, 3, DITTO);
        int[] few = {2, 4, 3, 2, 0, 1, 0, 12, 0, 4, 4, 0};
        for (int what = 0; what < few.length; what++) {
            same("few: count(" + what + ")", log.count(what), few[what]);
        }
        log.correct(0, 3, 1);
        same("the row 0 is written out", log.count(4), 1);
        for (int wrong : new int[] {-1, 12, LEAST, MOST}) {
            same("count(" + wrong + ")", log.count(wrong), BAD);
        }
    }

    // ---- errors

    private static void errorsChangeNothing() {
        DittoLog log = Logs.withRows("0,100,1,5", "',',',3");
        log.claim(0, 3);
        log.undo();
        int states = log.count(10);
        log.addRow(0, 0, 0, 10);
        log.addRows();
        log.correct(0, 0, 0);
        log.correct(0, 0, 8);
        log.correct(2, 0, 1);
        log.takeBack(0, 0);
        log.claim(0, NONE);
        log.claim(0, 10000);
        log.set(0, 12);
        log.set(0, 13);
        log.restore();
        same("the states in the history", log.count(10), states);
        same("the rows", log.count(0), 2);
        same("the corrections", log.count(2), 0);
        same("undo()", log.undo(), states - 1);
        same("one row", log.count(0), 1);
    }
}
