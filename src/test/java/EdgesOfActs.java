/** The edges of the calls that change something: promises 1 to 13. */
final class EdgesOfActs extends EdgeChecks {
    EdgesOfActs(Edges edges) {
        super(edges);
    }

    @Override
    void all() {
        newObject();
        addRow();
        addRowRefused();
        addRows();
        addRowsRefused();
        removeRow();
        correct();
        correctMeanings();
        correctRefused();
        takeBack();
        takeBackRefused();
        claim();
        claimRefused();
        set();
        setRefused();
        type();
        clearText();
        undo();
        keep();
        restore();
    }

    // ---- promise 1

    private void newObject() {
        says(1, "Creates an empty logbook.");
        DittoLog log = new DittoLog();
        int[] due = {0, 0, 0, 0, 0, 0, 0, 12, 0, 4, 0, 0};
        for (int what = 0; what < due.length; what++) {
            same("count(" + what + ")", log.count(what), due[what]);
        }
        same("no row 0", log.cell(0, 0, 0), UNKNOWN);
        same("no watch 0", log.watch(0, 0), UNKNOWN);
        same("nothing to remove", log.removeRow(), NOT_POSSIBLE);
        same("no text", log.addRows(), -100);
        same("no state", log.undo(), NONE);
        same("no snapshot", log.restore(), NONE);
        same("no own sum", log.claim(0, NONE), NONE);
        log.addRow(7, 7, 7, 7);
        same("a second object has none of it", new DittoLog().count(0), 0);
    }

    // ---- promise 2

    private void addRow() {
        says(2, "Adds a row.");
        DittoLog log = new DittoLog();
        log.addRow(7, 199, NONE, DITTO);
        same("one row", log.count(0), 1);
        same("course", log.entry(0, 0, 0), 7);
        same("speed", log.entry(0, 1, 0), 199);
        same("wind", log.entry(0, 2, 0), NONE);
        same("keeper", log.entry(0, 3, 0), DITTO);
        for (int column = 0; column < 4; column++) {
            same("one entry in " + column, log.cell(0, column, 2), 1);
        }
        says(2, "This is an act.");
        isAct((one, unused) -> one.addRow(0, 0, 0, 0));
        says(2, "Returns its number");
        log = new DittoLog();
        for (int row = 0; row < 48; row++) {
            same("row " + row, log.addRow(NONE, DITTO, 0, 0), row);
        }
        log.removeRow();
        log.removeRow();
        same("row 46 after two removals", log.addRow(0, 0, 0, 0), 46);
        entriesOfNewRow();
    }

    private void entriesOfNewRow() {
        String[] names = {"course: a number of the column's range, NONE or DITTO", "speed: likewise",
            "wind: likewise", "keeper: likewise"};
        for (int column = 0; column < 4; column++) {
            int at = column;
            says(2, names[column]);
            OfOne call = (one, entry) -> Logs.addRowWith(new DittoLog(), at, entry);
            same("0", call.on(null, 0), 0);
            same("the greatest", call.on(null, GREATEST[at]), 0);
            same("one more", call.on(null, GREATEST[at] + 1), BAD_VALUE);
            same("NONE", call.on(null, NONE), 0);
            same("DITTO", call.on(null, DITTO), 0);
            for (int wrong : new int[] {-1, -4, -7, 200, LEAST, MOST}) {
                same("" + wrong, call.on(null, wrong), BAD_VALUE);
            }
        }
    }

    private void addRowRefused() {
        says(2, "BAD_VALUE (any of them)");
        DittoLog log = Logs.filled(47, 0);
        for (int wrong = 1; wrong < 16; wrong++) {
            int[] e = new int[4];
            for (int column = 0; column < 4; column++) {
                e[column] = (wrong >> column) % 2 == 1 ? GREATEST[column] + 1 : GREATEST[column];
            }
            same("wrong ones: " + wrong, log.addRow(e[0], e[1], e[2], e[3]), BAD_VALUE);
        }
        same("no row by it", log.count(0), 47);
        says(2, "FULL if there are 48");
        same("47", log.addRow(0, 0, 0, 0), 47);
        same("48", log.addRow(0, 0, 0, 0), FULL);
        same("48, and wrong", log.addRow(8, 0, 0, 0), BAD_VALUE);
        log.removeRow();
        same("47 again", log.addRow(0, 0, 0, 0), 47);
        log.undo();
        same("47 by undo", log.addRow(0, 0, 0, 0), 47);
        same("48 again", log.addRow(0, 0, 0, 0), FULL);
    }

    // ---- promise 3

    private void addRows() {
        says(3, "Adds the rows of the text, which stays; all of them, or none.");
        DittoLog log = Logs.filled(46, 0);
        Logs.typeText(log, "1,2,3,4;5,6,-,'");
        same("room for both", log.addRows(), 2);
        same("both are there", log.count(0), 48);
        same("the first one", log.cell(46, 0, 0), 1);
        same("the last one", log.entry(47, 3, 0), DITTO);
        same("the text stays", log.count(11), 15);
        log.removeRow();
        same("room for one", log.addRows(), FULL);
        same("none of them", log.count(0), 47);
        same("the text stays even so", log.count(11), 15);
        says(3, "This is one act.");
        isAct((one, unused) -> one.addRows());
        says(3, "Returns how many the text has");
        for (int rows = 1; rows <= 7; rows++) {
            log = Logs.filled(48 - rows, 0);
            Logs.typeText(log, "0,0,0,0;0,0,0,0;0,0,0,0;0,0,0,0;0,0,0,0;0,0,0,0;0,0,0,0".substring(0, rows * 8 - 1));
            same(rows + " of them", log.addRows(), rows);
            same("up to 48", log.count(0), 48);
            same("one state by them", log.undo(), 3);
            same("all are gone", log.count(0), 48 - rows);
        }
    }

    private void addRowsRefused() {
        says(3, "-100 minus the fault of the text if it has one (which is an error)");
        DittoLog log = new DittoLog();
        same("the empty text", log.addRows(), -100);
        Logs.typeText(log, "0,0,0,0;8");
        same("a second row that is none", log.addRows(), -108);
        same("the first one is not added", log.count(0), 0);
        same("nothing is recorded", log.count(10), 0);
        same("the text is as it was", log.count(11), 9);
        Logs.typeText(log, "0,0,0,0;0,0,0,0;0,0,0,0;0,0,0,0;0,0,0,0;0,0,0,0;0,0,0,0;0,0,");
        same("the greatest fault", log.addRows(), -160);
        log = Logs.filled(48, 0);
        Logs.typeText(log, "0,0,0,00");
        same("a fault, and no room", log.addRows(), -107);
        says(3, "FULL if there would be more than 48");
        for (int rows = 45; rows <= 48; rows++) {
            log = Logs.filled(rows, 0);
            Logs.typeText(log, "0,0,0,0;0,0,0,0");
            same("two more than " + rows, log.addRows(), rows <= 46 ? 2 : FULL);
            same("the rows", log.count(0), rows <= 46 ? rows + 2 : rows);
        }
        log = Logs.filled(41, 0);
        Logs.typeText(log, "0,0,0,0;0,0,0,0;0,0,0,0;0,0,0,0;0,0,0,0;0,0,0,0;0,0,0,0");
        same("seven more than 41", log.addRows(), 7);
        same("seven more than 48", log.addRows(), FULL);
    }

    // ---- promise 4

    private void removeRow() {
        says(4, "Removes the last row, with all entries of its cells.");
        DittoLog log = Logs.filled(48, 0);
        log.correct(47, 0, 1);
        log.correct(47, 0, 2);
        log.correct(47, 0, 3);
        log.removeRow();
        same("it is gone", log.cell(47, 0, 0), UNKNOWN);
        same("its corrections are gone", log.count(2), 0);
        same("its watch has a row less", log.watch(11, 0), 3);
        log.addRow(4, 4, 4, 4);
        same("a new one has one entry", log.cell(47, 0, 2), 1);
        same("its own", log.entry(47, 0, 0), 4);
        same("and no other", log.entry(47, 0, 1), BAD_VALUE);
        traceOfRemovedRow();
        says(4, "This is an act.");
        isAct((one, unused) -> one.removeRow());
        says(4, "Returns how many there are then");
        for (int rows = 47; rows >= 0; rows--) {
            same(rows + " are left", log.removeRow(), rows);
        }
        says(4, "NOT_POSSIBLE if there is none");
        same("none", log.removeRow(), NOT_POSSIBLE);
        same("none of a new object", new DittoLog().removeRow(), NOT_POSSIBLE);
        same("nothing is recorded by it", log.undo(), 3);
        same("the first row is back", log.count(0), 1);
    }

    /** Whatever was written in a row, all that is counted is after its removal as without it. */
    private void traceOfRemovedRow() {
        for (int entry : new int[] {0, 7, NONE, DITTO}) {
            for (int rows : new int[] {0, 1, 12, 47}) {
                DittoLog log = Logs.withDittos(rows, 1);
                log.addRow(entry, entry, entry, entry);
                log.correct(rows, 0, 5);
                log.correct(rows, 0, DITTO);
                log.correct(rows, 3, 5);
                log.removeRow();
                String due = counted(Logs.withDittos(rows, 1));
                isTrue("no trace of " + entry + " behind " + rows + " rows", counted(log).equals(due));
            }
        }
    }

    private static String counted(DittoLog log) {
        StringBuilder counted = new StringBuilder();
        for (int what = 0; what < 10; what++) {
            counted.append(' ').append(log.count(what));
        }
        for (int i = 0; i < 28; i++) {
            counted.append(' ').append(log.column(i / 7, i % 7));
        }
        for (int i = 0; i < 24 * 7; i++) {
            counted.append(' ').append(log.watch(i / 7, i % 7));
        }
        for (int row = 0; row < 48; row++) {
            counted.append(' ').append(log.cell(row, 0, 5)).append(' ').append(log.wouldChange(row, 3, 9));
        }
        return counted.toString();
    }

    // ---- promise 5

    private void correct() {
        says(5, "Corrects a cell: a new entry comes above the others.");
        DittoLog log = Logs.filled(48, 1);
        log.correct(47, 3, 9);
        log.correct(47, 3, DITTO);
        log.correct(47, 3, NONE);
        int[] due = {1, 9, DITTO, NONE};
        for (int rank = 0; rank < 4; rank++) {
            same("entry " + rank, log.entry(47, 3, rank), due[rank]);
        }
        same("the latest counts", log.cell(47, 3, 0), NONE);
        says(5, "This is an act.");
        isAct((one, unused) -> one.correct(2, 0, 7));
        isAct((one, unused) -> one.correct(2, 1, 30));
        says(5, "row: a row");
        rows((one, row) -> one.correct(row, 0, 7), 1);
        says(5, "column: 0 to 3");
        columns((one, column) -> one.correct(0, column, 7), 1);
        says(5, "entry: a number of the column's range, NONE or DITTO");
        entries(DittoLog::correct, 1);
    }

    private void correctMeanings() {
        says(5, "Returns how many cells mean something else (another number, or nothing, or something instead of "
            + "nothing; the source alone does not matter) by it");
        DittoLog log = Logs.withDittos(48, 5);
        same("another number for all 48", log.correct(0, 0, 6), 48);
        same("nothing for all 48", log.correct(0, 0, NONE), 48);
        same("nothing instead of nothing", log.correct(0, 0, DITTO), 0);
        same("something instead of nothing for the last", log.correct(47, 0, 0), 1);
        same("for all but one", log.correct(1, 0, 1), 46);
        same("the same number, another source", log.correct(24, 1, 5), 0);
        same("which is told", log.cell(47, 1, 1), 24);
        same("down to the other source", log.correct(0, 1, 0), 24);
        same("the number again by a ditto", log.correct(24, 1, DITTO), 24);
        log.set(1, 1);
        same("down to the page's end", log.correct(0, 2, 0), 12);
        same("a ditto at the page's head to a blank", log.correct(12, 2, NONE), 0);
        same("to a number for its page", log.correct(12, 2, 5), 12);
        same("to the ditto again", log.correct(12, 2, DITTO), 12);
        same("the last row of the page", log.correct(11, 3, 0), 1);
    }

    private void correctRefused() {
        says(5, "UNKNOWN (row or column)");
        noRows((one, row) -> one.correct(row, 0, 7), UNKNOWN);
        noRows((one, row) -> one.correct(row, 0, 8), UNKNOWN);
        beyond((one, column) -> one.correct(0, column, 7), 0, 3, UNKNOWN);
        beyond((one, column) -> one.correct(0, column, -1), 0, 3, UNKNOWN);
        same("both", Logs.filled(1, 0).correct(1, 4, 7), UNKNOWN);
        says(5, "BAD_VALUE");
        noEntries(DittoLog::correct);
        DittoLog log = Logs.filled(2, 0);
        log.correct(1, 0, 1);
        log.correct(1, 0, 2);
        same("three entries", log.correct(1, 0, 3), 1);
        same("four entries, and out of range", log.correct(1, 0, 8), BAD_VALUE);
        says(5, "FULL if the cell has 4 entries");
        same("another one", log.correct(1, 0, 4), FULL);
        same("a blank", log.correct(1, 0, NONE), FULL);
        same("the same", log.correct(1, 0, 3), FULL);
        same("the cell above has room", log.correct(0, 0, 4), 1);
        log.takeBack(1, 0);
        same("three entries again", log.correct(1, 0, 4), 1);
        says(5, "NONE if the latest entry is the same");
        same("a number", log.correct(0, 0, 4), NONE);
        same("the one before it is another", log.correct(0, 0, 0), 1);
        log = Logs.withRows("-,',0,9", "-,',0,'");
        same("a blank", log.correct(0, 0, NONE), NONE);
        same("a ditto", log.correct(0, 1, DITTO), NONE);
        same("the number 0", log.correct(0, 2, 0), NONE);
        same("a number that only the meaning has", log.correct(1, 3, 9), 0);
        same("two rows and that one are recorded", log.count(10), 3);
    }

    // ---- promise 6

    private void takeBack() {
        says(6, "Takes the latest correction of a cell away.");
        DittoLog log = Logs.filled(48, 0);
        log.correct(47, 3, 7);
        log.correct(47, 3, 8);
        log.correct(47, 3, 9);
        for (int left = 3; left >= 1; left--) {
            log.takeBack(47, 3);
            same(left + " are left", log.cell(47, 3, 2), left);
            same("the latest of them", log.cell(47, 3, 0), left == 1 ? 0 : 5 + left);
            same("the one taken is gone", log.entry(47, 3, left), BAD_VALUE);
        }
        says(6, "This is an act.");
        isAct((one, unused) -> one.takeBack(1, 1));
        says(6, "row: a row");
        rows((one, row) -> one.correct(row, 0, 7) == 1 ? one.takeBack(row, 0) : LEAST, 1);
        says(6, "column: 0 to 3");
        for (int column = 0; column < 4; column++) {
            log.correct(0, column, 1);
            same("column " + column, log.takeBack(0, column), 1);
        }
        says(6, "Returns how many cells mean something else by it");
        log = Logs.withDittos(48, 5);
        log.correct(0, 0, 7);
        log.correct(0, 0, NONE);
        log.correct(0, 0, DITTO);
        same("nothing by a blank instead of by a ditto", log.takeBack(0, 0), 0);
        same("a number instead of nothing", log.takeBack(0, 0), 48);
        same("another number", log.takeBack(0, 0), 48);
        log.correct(47, 1, 5);
        same("another source alone", log.takeBack(47, 1), 0);
        log.correct(1, 2, NONE);
        same("a ditto instead of a blank", log.takeBack(1, 2), 47);
        log.correct(12, 2, 5);
        log.set(1, 1);
        same("a ditto at the page's head", log.takeBack(12, 2), 12);
        log = Logs.withRows("0,1,2,3", "4,5,6,7", "7,199,12,9", "-,-,-,-");
        log.correct(3, 1, 199);
        log.correct(3, 1, DITTO);
        same("a number that the ditto meant", log.takeBack(3, 1), 0);
        same("a blank instead of it", log.takeBack(3, 1), 1);
        log.correct(2, 3, 7);
        log.correct(2, 3, DITTO);
        same("a number that the ditto meant", log.takeBack(2, 3), 0);
        same("the first one instead of it", log.takeBack(2, 3), 1);
        log.correct(2, 3, NONE);
        same("the first one instead of nothing", log.takeBack(2, 3), 1);
    }

    private void takeBackRefused() {
        says(6, "UNKNOWN (row or column)");
        noRows((one, row) -> one.takeBack(row, 0), UNKNOWN);
        beyond((one, column) -> one.takeBack(0, column), 0, 3, UNKNOWN);
        same("both", Logs.filled(1, 0).takeBack(1, 4), UNKNOWN);
        says(6, "NOT_POSSIBLE if it has just one entry");
        rows((one, row) -> one.takeBack(row, 3), NOT_POSSIBLE);
        DittoLog log = Logs.filled(2, 0);
        log.correct(1, 1, 1);
        same("the cell above has one", log.takeBack(0, 1), NOT_POSSIBLE);
        same("the cell beside it has one", log.takeBack(1, 2), NOT_POSSIBLE);
        same("two", log.takeBack(1, 1), 1);
        same("one", log.takeBack(1, 1), NOT_POSSIBLE);
    }

    // ---- promise 7

    private void claim() {
        says(7, "Writes a keeper's own sum, or makes it blank.");
        DittoLog log = Logs.filled(5, 0);
        log.claim(1, 9999);
        same("it is written", log.watch(1, 3), 9999);
        same("not for the watch ahead of it", log.watch(0, 3), NONE);
        log.claim(1, 0);
        same("the sum 0 is not blank", log.watch(1, 3), 0);
        log.claim(1, NONE);
        same("it is blank", log.watch(1, 3), NONE);
        says(7, "This is an act.");
        isAct((one, unused) -> one.claim(0, 7));
        isAct((one, unused) -> one.claim(23, 9999));
        says(7, "watch: 0 to 23");
        range((one, watch) -> one.claim(watch, 5), 0, 23, 10000 - 5, UNKNOWN);
        same("without rows", new DittoLog().claim(23, 0), 10000 - 5);
        says(7, "sum: 0 to 9999, or NONE");
        range((one, sum) -> one.claim(0, sum), 0, 9999, 10000 - 5, BAD_VALUE);
        range((one, sum) -> one.claim(0, 1) == 9995 ? one.claim(0, sum) : LEAST, NONE, NONE, 10001, BAD_VALUE);
        says(7, "Returns the previous one plus 10000 (10000 - 5 if it was blank)");
        log = new DittoLog();
        same("blank", log.claim(0, 9999), 9995);
        same("9999", log.claim(0, 0), 19999);
        same("0", log.claim(0, 1), 10000);
        same("1", log.claim(0, NONE), 10001);
        same("blank again", log.claim(0, 0), 9995);
    }

    private void claimRefused() {
        DittoLog log = new DittoLog();
        says(7, "UNKNOWN");
        for (int wrong : new int[] {-1, 24, LEAST, MOST}) {
            same("watch " + wrong, log.claim(wrong, 0), UNKNOWN);
            same("and a wrong sum", log.claim(wrong, 10000), UNKNOWN);
            same("and a blank", log.claim(wrong, NONE), UNKNOWN);
        }
        says(7, "BAD_VALUE");
        for (int wrong : new int[] {-1, -4, DITTO, 10000, LEAST, MOST}) {
            same("sum " + wrong, log.claim(23, wrong), BAD_VALUE);
        }
        says(7, "NONE if it is so already");
        same("blank at first", log.claim(23, NONE), NONE);
        log.claim(23, 9999);
        same("9999", log.claim(23, 9999), NONE);
        log.claim(23, 0);
        same("0", log.claim(23, 0), NONE);
        log.claim(23, NONE);
        same("blank again", log.claim(23, NONE), NONE);
        same("three acts", log.count(10), 3);
    }

    // ---- promise 8

    private void set() {
        says(8, "Sets a setting.");
        DittoLog log = Logs.withDittos(13, 1);
        log.set(1, 1);
        same("dittos stop at a page of 12", log.cell(12, 0, 0), NONE);
        log.set(0, 11);
        same("a page of 11", log.cell(11, 0, 0), NONE);
        log.set(0, 5);
        same("a page of 5", log.cell(4, 0, 0), 1);
        log.set(2, 6);
        same("watches of 6", log.watch(0, 0), 6);
        same("the others stay", log.count(7), 5);
        says(8, "This is an act.");
        isAct((one, unused) -> one.set(0, 4));
        isAct((one, unused) -> one.set(1, 1));
        isAct((one, unused) -> one.set(2, 2));
        says(8, "which: 0 to 2");
        same("0", new DittoLog().set(0, 5), 12);
        same("2", new DittoLog().set(2, 5), 4);
        for (int value : new int[] {0, 1, 2, 4, 5, 6, 12}) {
            beyond((one, which) -> one.set(which, value), 0, 2, BAD_VALUE);
        }
        says(8, "value: in its range");
        range((one, value) -> one.set(0, 5) == 12 ? one.set(0, value) : LEAST, 4, 12, 5, BAD_VALUE);
        same("1 of 1", new DittoLog().set(1, 1), 0);
        beyond((one, value) -> one.set(1, value), 0, 1, BAD_VALUE);
        range((one, value) -> one.set(2, value), 2, 6, 4, BAD_VALUE);
        says(8, "Returns the previous one");
        log = new DittoLog();
        same("12", log.set(0, 4), 12);
        same("4", log.set(0, 12), 4);
        same("0", log.set(1, 1), 0);
        same("1", log.set(1, 0), 1);
        same("4 of a watch", log.set(2, 2), 4);
        same("2 of a watch", log.set(2, 6), 2);
        same("6 of a watch", log.set(2, 4), 6);
    }

    private void setRefused() {
        DittoLog log = new DittoLog();
        says(8, "BAD_VALUE (which or value)");
        for (int wrong : new int[] {-1, 3, LEAST, MOST}) {
            for (int value : new int[] {DITTO, NONE, -1, 0, 1, 2, 4, 6, 12}) {
                same("which " + wrong, log.set(wrong, value), BAD_VALUE);
            }
        }
        int[][] beyond = {{0, 3}, {0, 13}, {1, -1}, {1, 2}, {2, 1}, {2, 7}, {0, NONE}, {1, NONE}, {2, NONE}};
        for (int[] one : beyond) {
            same("set(" + one[0] + ", " + one[1] + ")", log.set(one[0], one[1]), BAD_VALUE);
        }
        says(8, "NONE if it is so already");
        int[][] values = {{12, 4}, {0, 1}, {4, 6}};
        for (int which = 0; which < 3; which++) {
            same("as at first", log.set(which, values[which][0]), NONE);
            same("nothing is recorded", log.count(10), which);
            log.set(which, values[which][1]);
            same("as it was set", log.set(which, values[which][1]), NONE);
            same("one is recorded", log.count(10), which + 1);
        }
    }

    // ---- promises 9 and 10

    private void type() {
        says(9, "Types a character behind the text.");
        DittoLog log = new DittoLog();
        Logs.typeText(log, "1,2,3,4");
        same("the four", log.addRows(), 1);
        log.type('x');
        same("one behind them", log.addRows(), -107);
        says(9, "character: any character");
        for (int character = 0; character <= 65535; character += character < 512 || character > 65500 ? 1 : 97) {
            same("character " + character, new DittoLog().type((char) character), 1);
        }
        says(9, "Returns the length of the text then");
        log = new DittoLog();
        for (int length = 1; length <= 60; length++) {
            same("length " + length, log.type(' '), length);
        }
        says(9, "FULL if it has 60 characters");
        same("60", log.type(' '), FULL);
        same("60 even so", log.count(11), 60);
        same("60 again", log.type('0'), FULL);
        log.clearText();
        Logs.typeText(log, "1,100,1,1;1,100,1,1;1,100,1,1;1,100,1,1;1,100,1,1;1,100,10,");
        same("59", log.type('9'), 60);
        same("60, of rows", log.type('8'), FULL);
        same("the rows are as they were", log.addRows(), 6);
        same("their last sign too", log.entry(5, 3, 0), 9);
    }

    private void clearText() {
        says(10, "Empties the text.");
        DittoLog log = new DittoLog();
        Logs.typeText(log, "1,2,3,4");
        log.clearText();
        same("it is empty", log.count(11), 0);
        same("nothing is left of it", log.addRows(), -100);
        log.type('7');
        same("nor behind a new one", log.addRows(), -101);
        says(10, "Returns the length that it had");
        for (int length = 0; length <= 60; length++) {
            log = new DittoLog();
            for (int i = 0; i < length; i++) {
                log.type(';');
            }
            same("length " + length, log.clearText(), length);
            same("empty", log.clearText(), 0);
        }
    }

    // ---- promise 11

    private void undo() {
        says(11, "Removes and restores the latest state of the history.");
        DittoLog log = new DittoLog();
        for (int value = 4; value <= 9; value++) {
            log.set(0, value);
        }
        for (int value = 8; value >= 5; value--) {
            log.undo();
            same("the state before", log.count(7), value);
        }
        log.undo();
        same("no more of them", log.count(7), 5);
        says(11, "Returns the number of states that are left");
        for (int acts = 1; acts <= 6; acts++) {
            log = Logs.filled(acts, 0);
            for (int left = Math.min(acts, 4) - 1; left >= 0; left--) {
                same("after " + acts + " acts", log.undo(), left);
            }
            same("nothing after that", log.undo(), NONE);
        }
        says(11, "NONE if the history is empty");
        log = new DittoLog();
        same("of a new object", log.undo(), NONE);
        log.keep();
        log.type('-');
        log.clearText();
        same("after calls that are no acts", log.undo(), NONE);
        log.addRow(0, 0, 0, 0);
        same("after an act", log.undo(), 0);
        same("after an undo", log.undo(), NONE);
    }

    // ---- promises 12 and 13

    private void keep() {
        says(12, "Takes a snapshot of the state, in place of the one that was.");
        DittoLog log = new DittoLog();
        log.keep();
        log.addRow(1, 1, 1, 1);
        log.restore();
        same("the first one, of no rows", log.count(0), 0);
        log.addRow(2, 2, 2, 2);
        log.keep();
        log.removeRow();
        log.restore();
        same("the second one", log.cell(0, 0, 0), 2);
        log.removeRow();
        log.keep();
        log.restore();
        same("a third one, of no rows again", log.count(0), 0);
        says(12, "Returns how many rows there are");
        for (int rows : new int[] {0, 1, 47, 48}) {
            same(rows + " rows", Logs.filled(rows, 0).keep(), rows);
        }
    }

    private void restore() {
        says(13, "Restores the state of the snapshot, which stays.");
        DittoLog log = Logs.filled(48, 3);
        log.correct(47, 1, 199);
        log.claim(23, 9999);
        log.set(2, 2);
        log.keep();
        for (int again = 0; again < 3; again++) {
            log.removeRow();
            log.claim(23, again);
            log.set(2, 3 + again);
            log.correct(0, 0, 0);
            log.restore();
            same("rows", log.count(0), 48);
            same("the correction", log.cell(47, 1, 0), 199);
            same("its entries", log.cell(47, 1, 2), 2);
            same("none of later", log.count(2), 1);
            same("the own sum", log.watch(23, 3), 9999);
            same("the setting", log.count(9), 2);
        }
        says(13, "This is an act.");
        isAct((one, unused) -> one.restore());
        log = new DittoLog();
        log.keep();
        same("also if all is as it was", log.restore(), 0);
        same("it is recorded", log.count(10), 1);
        says(13, "Returns how many rows there are then");
        for (int rows : new int[] {0, 1, 47, 48}) {
            log = Logs.filled(rows, 0);
            log.keep();
            log.addRow(0, 0, 0, 0);
            log.set(1, 1);
            same(rows + " rows", log.restore(), rows);
        }
        says(13, "NONE if there is no snapshot");
        log = Logs.filled(3, 0);
        same("none yet", log.restore(), NONE);
        log.keep();
        same("one", log.restore(), 3);
        log.undo();
        same("undo does not take it", log.restore(), 3);
    }
}
