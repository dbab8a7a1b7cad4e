/** The edges of the calls that only tell something: promises 14 to 24. */
final class EdgesOfAnswers extends EdgeChecks {
    EdgesOfAnswers(Edges edges) {
        super(edges);
    }

    @Override
    void all() {
        cellArguments();
        cell();
        cellDoubtAndFollowers();
        entry();
        isWritten();
        columnArguments();
        columnOfEntries();
        columnOfMeanings();
        watchArguments();
        watch();
        watchSums();
        run();
        north();
        east();
        squareBits();
        floats();
        wouldChange();
        wouldChangeRefused();
        countRows();
        countOwnSums();
        countOthers();
    }

    /** The least and the greatest number of what can be asked are answered, the ones beyond them are not. */
    private void whats(OfOne call, int greatest) {
        for (int what = 0; what <= greatest; what++) {
            isTrue("what " + what + " is answered", call.on(Logs.filled(48, 0), what) != BAD_VALUE);
        }
        beyond(call, 0, greatest, BAD_VALUE);
    }

    // ---- promise 14

    private void cellArguments() {
        says(14, "row: a row");
        rows((one, row) -> one.cell(row, 0, 2), 1);
        says(14, "column: 0 to 3");
        columns((one, column) -> one.cell(0, column, 2), 1);
        says(14, "UNKNOWN (row or column)");
        noRows((one, row) -> one.cell(row, 0, 0), UNKNOWN);
        noRows((one, row) -> one.cell(row, 3, 6), UNKNOWN);
        beyond((one, column) -> one.cell(0, column, 0), 0, 3, UNKNOWN);
        beyond((one, column) -> one.cell(47, column, -1), 0, 3, UNKNOWN);
        same("row 1 and column 4", Logs.filled(1, 0).cell(1, 4, 0), UNKNOWN);
        says(14, "BAD_VALUE");
        whats((one, what) -> one.cell(0, 0, what), 5);
        whats((one, what) -> one.cell(47, 3, what), 5);
    }

    private void cell() {
        DittoLog log = Logs.withRows("7,199,-,'", "',0,',0", "',',',9");
        says(14, "what: 0 for what it means (NONE for nothing)");
        meant(log, 0, new int[][] {{7, 199, NONE, NONE}, {7, 0, NONE, 0}, {7, 0, NONE, 9}});
        says(14, "Returns the number");
        same("the greatest one", log.cell(2, 0, 0), 7);
        same("the least one", log.cell(1, 3, 0), 0);
        says(14, "what: 1 for its source (NONE if it means nothing)");
        meant(log, 1, new int[][] {{0, 0, NONE, NONE}, {0, 1, NONE, 1}, {0, 1, NONE, 2}});
        says(14, "what: 2 for its entries (how many)");
        for (int entries = 1; entries <= 4; entries++) {
            same("entries", log.cell(2, 3, 2), entries);
            log.correct(2, 3, entries);
        }
        same("not five", log.cell(2, 3, 2), 4);
        says(14, "what: 3 for the cells of its chain (how many)");
        meant(log, 3, new int[][] {{1, 1, 1, 1}, {2, 1, 2, 1}, {3, 2, 3, 1}});
        same("48 at most", Logs.withDittos(48, 0).cell(47, 0, 3), 48);
    }

    private void meant(DittoLog log, int what, int[][] due) {
        for (int row = 0; row < due.length; row++) {
            for (int column = 0; column < 4; column++) {
                same("row " + row + ", column " + column, log.cell(row, column, what), due[row][column]);
            }
        }
    }

    private void cellDoubtAndFollowers() {
        DittoLog log = Logs.withDittos(48, 0);
        says(14, "what: 4 for whether it is doubtful (1, otherwise 0)");
        same("not yet", log.cell(0, 0, 4), 0);
        log.correct(0, 0, 1);
        same("two entries", log.cell(0, 0, 4), 1);
        log.correct(0, 0, 2);
        log.correct(0, 0, 3);
        same("four entries", log.cell(0, 0, 4), 1);
        same("47 rows below it", log.cell(47, 0, 4), 1);
        same("beside it", log.cell(0, 1, 4), 0);
        says(14, "what: 5 for how many cells below it have it in their chains");
        same("47", log.cell(0, 0, 5), 47);
        same("one", log.cell(46, 0, 5), 1);
        same("none of the last row", log.cell(47, 0, 5), 0);
        log.correct(47, 1, NONE);
        same("not a blank", log.cell(46, 1, 5), 0);
        same("nor the rows above it", log.cell(0, 1, 5), 46);
        log.correct(0, 2, DITTO);
        same("a ditto that means nothing", log.cell(0, 2, 5), 47);
        log.set(1, 1);
        same("down to the page's end", log.cell(0, 2, 5), 11);
        same("from the page's head", log.cell(12, 2, 5), 11);
        same("none of the page's last row", log.cell(11, 2, 5), 0);
        log.removeRow();
        same("a row less", log.cell(46, 2, 5), 0);
    }

    // ---- promise 15

    private void entry() {
        says(15, "row: a row");
        rows((one, row) -> one.entry(row, 0, 0), 0);
        says(15, "column: 0 to 3");
        columns((one, column) -> one.entry(0, column, 0), 0);
        says(15, "rank: 0 for the first entry, 1 for the first correction, and so on");
        DittoLog log = Logs.filled(48, 0);
        int[] entries = {0, 7, NONE, DITTO};
        for (int rank = 0; rank < 4; rank++) {
            log.correct(47, 3, entries[rank]);
            for (int earlier = 0; earlier <= rank; earlier++) {
                same("rank " + earlier + " of " + rank, log.entry(47, 3, earlier), entries[earlier]);
            }
            same("the next one is not there", log.entry(47, 3, rank + 1), BAD_VALUE);
        }
        says(15, "Returns the number that is written, DITTO for a ditto, NONE for a blank");
        log = Logs.withRows("7,199,12,9", "',-,0,'");
        for (int column = 0; column < 4; column++) {
            same("the greatest of " + column, log.entry(0, column, 0), GREATEST[column]);
        }
        same("a ditto, whatever it means", log.entry(1, 0, 0), DITTO);
        same("a blank", log.entry(1, 1, 0), NONE);
        same("a zero", log.entry(1, 2, 0), 0);
        says(15, "UNKNOWN (row or column)");
        noRows((one, row) -> one.entry(row, 0, 0), UNKNOWN);
        noRows((one, row) -> one.entry(row, 0, 4), UNKNOWN);
        beyond((one, column) -> one.entry(0, column, 0), 0, 3, UNKNOWN);
        beyond((one, column) -> one.entry(0, column, -1), 0, 3, UNKNOWN);
        says(15, "BAD_VALUE if there is no such entry");
        beyond((one, rank) -> one.entry(0, 0, rank), 0, 0, BAD_VALUE);
        beyond((one, rank) -> one.correct(5, 1, 7) == 1 ? one.entry(5, 1, rank) : LEAST, 0, 1, BAD_VALUE);
        log.correct(0, 0, 1);
        log.takeBack(0, 0);
        same("one that was taken back", log.entry(0, 0, 1), BAD_VALUE);
        log.correct(1, 3, 1);
        log.removeRow();
        log.addRow(0, 0, 0, 0);
        same("one of a row that was removed", log.entry(1, 3, 1), BAD_VALUE);
    }

    // ---- promise 16

    private void isWritten() {
        says(16, "Tells whether a row is written out: all its latest entries are numbers.");
        DittoLog log = Logs.withRows("0,0,0,0", "7,199,12,9", "0,0,0,-", "0,0,',0", "0,-,0,0", "',0,0,0", "-,',-,'");
        int[] due = {1, 1, 0, 0, 0, 0, 0};
        for (int row = 0; row < due.length; row++) {
            same("row " + row, log.isWritten(row), due[row]);
        }
        log.correct(0, 3, DITTO);
        same("a ditto above a number", log.isWritten(0), 0);
        log.correct(5, 0, 0);
        same("a number above a ditto", log.isWritten(5), 1);
        log.takeBack(5, 0);
        same("a ditto again, that means a number", log.isWritten(5), 0);
        says(16, "row: a row");
        rows(DittoLog::isWritten, 1);
        says(16, "Returns 1 if it is, otherwise 0");
        same("it is", log.isWritten(1), 1);
        same("it is not", log.isWritten(6), 0);
        says(16, "UNKNOWN");
        noRows(DittoLog::isWritten, UNKNOWN);
    }

    // ---- promise 17

    private void columnArguments() {
        says(17, "column: 0 to 3");
        columns((one, column) -> one.column(column, 4), 1);
        says(17, "UNKNOWN");
        beyond((one, column) -> one.column(column, 0), 0, 3, UNKNOWN);
        beyond((one, column) -> one.column(column, 7), 0, 3, UNKNOWN);
        same("column 4 without rows", new DittoLog().column(4, 0), UNKNOWN);
        says(17, "BAD_VALUE");
        whats((one, what) -> one.column(0, what), 6);
        whats((one, what) -> one.column(3, what), 6);
        same("what 7 without rows", new DittoLog().column(0, 7), BAD_VALUE);
    }

    private void columnOfEntries() {
        says(17, "Returns the number");
        DittoLog log = new DittoLog();
        int[] empty = {0, 0, 0, 0, 0, NONE, 0};
        for (int what = 0; what < 7; what++) {
            same("without rows, " + what, log.column(3, what), empty[what]);
        }
        log = Logs.filled(48, DITTO);
        says(17, "what: 0 for cells whose latest entry is a ditto");
        same("all 48", log.column(0, 0), 48);
        log.correct(0, 0, 0);
        log.correct(47, 0, NONE);
        same("a number and a blank above two", log.column(0, 0), 46);
        log.correct(47, 0, DITTO);
        same("a ditto above the blank", log.column(0, 0), 47);
        says(17, "what: 1 for blank ones likewise");
        same("no blank", log.column(0, 1), 0);
        log.correct(47, 1, NONE);
        log.correct(0, 1, NONE);
        same("two blanks", log.column(1, 1), 2);
        log.correct(0, 1, 0);
        same("a number above a blank", log.column(1, 1), 1);
        same("all 48 are blank", Logs.filled(48, NONE).column(0, 1), 48);
        says(17, "what: 2 for corrections (of all cells together)");
        same("in the column 0", log.column(0, 2), 3);
        same("in the column 1", log.column(1, 2), 3);
        same("none in the column 2", log.column(2, 2), 0);
        for (int row = 0; row < 48; row++) {
            for (int entry = 1; entry <= 3; entry++) {
                log.correct(row, 3, entry);
            }
        }
        same("three in each cell", log.column(3, 2), 144);
    }

    private void columnOfMeanings() {
        DittoLog log = Logs.withDittos(48, 7);
        says(17, "what: 3 for cells that mean nothing");
        same("none", log.column(0, 3), 0);
        log.correct(47, 0, NONE);
        same("the last one", log.column(0, 3), 1);
        log.correct(0, 0, DITTO);
        same("all 48", log.column(0, 3), 48);
        log.set(1, 1);
        same("three pages", log.column(1, 3), 36);
        says(17, "what: 4 for the cells of the longest chain (0 without rows)");
        same("a page", log.column(1, 4), 12);
        log.set(1, 0);
        same("all 48 rows", log.column(1, 4), 48);
        log.correct(24, 1, 0);
        same("two halves", log.column(1, 4), 24);
        log.correct(47, 1, 0);
        same("the first half", log.column(1, 4), 24);
        same("one without dittos", Logs.filled(48, 0).column(1, 4), 1);
        same("0 without rows", new DittoLog().column(1, 4), 0);
        says(17, "what: 5 for the number that most cells mean, of several the least one (NONE without any)");
        most("7,199,12,9", "0,0,0,0", "-,-,-,-");
        log = Logs.filled(48, NONE);
        same("48 blanks", log.column(1, 5), NONE);
        log.correct(47, 1, 199);
        same("one number, the greatest", log.column(1, 5), 199);
        log.correct(0, 1, 198);
        same("of two the lesser", log.column(1, 5), 198);
        log.correct(1, 1, 199);
        same("two against one", log.column(1, 5), 199);
        same("none without rows", new DittoLog().column(1, 5), NONE);
        says(17, "what: 6 for doubtful cells");
        log = Logs.withDittos(48, 0);
        same("none", log.column(3, 6), 0);
        log.correct(47, 3, 1);
        same("one", log.column(3, 6), 1);
        log.correct(0, 3, 1);
        same("all 48", log.column(3, 6), 48);
        same("none beside them", log.column(2, 6), 0);
    }

    /** A greatest number, a least one and none: the least of the two that stand once. */
    private void most(String... rows) {
        for (int column = 0; column < 4; column++) {
            same("the lesser of two in " + column, Logs.withRows(rows).column(column, 5), 0);
            same("the greatest of " + column, Logs.withRows(rows[0], rows[2]).column(column, 5), GREATEST[column]);
            same("none of " + column, Logs.withRows(rows[2]).column(column, 5), NONE);
        }
    }

    // ---- promise 18

    private void watchArguments() {
        says(18, "watch: a watch that has rows");
        for (int size = 2; size <= 6; size++) {
            for (int rows = 1; rows <= 48; rows++) {
                DittoLog log = Logs.filled(rows, 0);
                log.set(2, size);
                int last = (rows - 1) / size;
                same("the last watch of " + rows + " by " + size, log.watch(last, 0), rows - last * size);
                same("one more", log.watch(last + 1, 0), UNKNOWN);
            }
        }
        says(18, "UNKNOWN");
        beyond((one, watch) -> one.watch(watch, 0), 0, 11, UNKNOWN);
        beyond((one, watch) -> one.watch(watch, 7), 0, 11, UNKNOWN);
        beyond((one, watch) -> one.set(2, 2) == 4 ? one.watch(watch, 0) : 0, 0, 23, UNKNOWN);
        DittoLog log = new DittoLog();
        log.claim(0, 5);
        same("a watch with an own sum and no rows", log.watch(0, 3), UNKNOWN);
        says(18, "BAD_VALUE");
        whats((one, what) -> one.watch(0, what), 6);
        whats((one, what) -> one.watch(11, what), 6);
    }

    private void watch() {
        DittoLog log = Logs.filled(9, 0);
        says(18, "what: 0 for its rows");
        same("a full watch", log.watch(1, 0), 4);
        same("a watch of one row", log.watch(2, 0), 1);
        says(18, "what: 1 for its run");
        same("a run of 0", log.watch(2, 1), 0);
        log.correct(7, 1, 100);
        log.correct(8, 1, 199);
        same("the last row of the watch 1", log.watch(1, 1), 100);
        same("the first row of the watch 2", log.watch(2, 1), 199);
        says(18, "Returns the number");
        log.set(2, 6);
        same("the first row of six", log.watch(1, 1), 299);
        log.set(2, 2);
        same("the last row alone", log.watch(4, 1), 199);
        says(18, "what: 2 for its keeper (NONE without one)");
        log = Logs.withRows("0,0,0,-", "0,0,0,'", "0,0,0,9", "0,0,0,0");
        log.set(2, 2);
        same("none", log.watch(0, 2), NONE);
        same("the lower of two", log.watch(1, 2), 0);
        log.correct(3, 3, 9);
        same("the greatest", log.watch(1, 2), 9);
        says(18, "what: 5 for how many of its rows mean no speed");
        log = Logs.withDittos(5, 0);
        same("none", log.watch(0, 5), 0);
        log.correct(0, 1, NONE);
        same("a whole watch", log.watch(0, 5), 4);
        same("over the watch's end", log.watch(1, 5), 1);
        log.correct(4, 1, 0);
        same("the speed 0 is one", log.watch(1, 5), 0);
        says(18, "what: 6 for how many of its cells are doubtful");
        same("four rows by one", log.watch(0, 6), 4);
        for (int column = 0; column < 4; column++) {
            log.correct(0, column, 7);
        }
        same("all sixteen", log.watch(0, 6), 16);
        same("all four of one row", log.watch(1, 6), 4);
        same("none", Logs.withDittos(5, 0).watch(1, 6), 0);
        log = Logs.filled(9, 0);
        log.correct(4, 0, 1);
        same("the first cell of the next watch", log.watch(0, 6), 0);
        same("is of that one", log.watch(1, 6), 1);
        log.correct(7, 3, 1);
        same("as is its last", log.watch(1, 6), 2);
        same("not of the one behind it", log.watch(2, 6), 0);
    }

    private void watchSums() {
        DittoLog log = Logs.filled(48, 0);
        says(18, "what: 3 for the keeper's own sum (NONE if it is blank)");
        same("blank", log.watch(11, 3), NONE);
        log.claim(11, 0);
        same("0", log.watch(11, 3), 0);
        log.claim(11, 9999);
        same("9999", log.watch(11, 3), 9999);
        same("not of the watch ahead", log.watch(10, 3), NONE);
        says(18, "what: 4 for the run less the keeper's own sum, plus 10000 (NONE if it is blank)");
        same("the least", log.watch(11, 4), 1);
        same("blank", log.watch(10, 4), NONE);
        log.claim(10, 0);
        same("nothing less nothing", log.watch(10, 4), 10000);
        log.set(2, 6);
        for (int row = 0; row < 6; row++) {
            log.correct(row, 1, 199);
        }
        log.claim(0, 0);
        same("the greatest", log.watch(0, 4), 11194);
        log.claim(0, 1193);
        same("one less than the run", log.watch(0, 4), 10001);
        log.claim(0, 1195);
        same("one more than the run", log.watch(0, 4), 9999);
        log.claim(0, NONE);
        same("blank again", log.watch(0, 4), NONE);
    }

    // ---- promises 19 to 22

    /** From and to at both ends, on rows of zeros; the answers there, for no such rows, and for to ahead of from. */
    private void fromTo(OfTwo call, long due) {
        for (int rows : new int[] {1, 2, 48}) {
            DittoLog log = Logs.filled(rows, 0);
            int last = rows - 1;
            same("all of " + rows, call.on(log, 0, last), due);
            same("the first of " + rows, call.on(log, 0, 0), due);
            same("the last of " + rows, call.on(log, last, last), due);
        }
    }

    private void noFrom(OfTwo call, long due) {
        noRows((one, row) -> call.on(one, row, 0), due);
        noRows((one, row) -> call.on(one, row, row), due);
        noRows((one, row) -> call.on(one, row, MOST), due);
        same("from behind the last", call.on(Logs.filled(2, 0), 2, 1), due);
    }

    private void noTo(OfTwo call, long due) {
        noRows((one, row) -> call.on(one, 0, row), due);
        same("to ahead of the first, from the last", call.on(Logs.filled(2, 0), 1, -1), due);
    }

    private void ahead(OfTwo call, long due) {
        same("one ahead", call.on(Logs.filled(2, 0), 1, 0), due);
        same("one ahead at the end", call.on(Logs.filled(48, 0), 47, 46), due);
        same("47 ahead", call.on(Logs.filled(48, 0), 47, 0), due);
    }

    private void run() {
        says(19, "Tells the run of some rows.");
        DittoLog log = Logs.withRows("0,1,0,0", "0,20,0,0", "0,',0,0", "0,-,0,0", "0,199,0,0");
        int[][] due = {{1, 21, 41, 41, 240}, {20, 40, 40, 239}, {20, 20, 219}, {0, 199}, {199}};
        for (int from = 0; from < 5; from++) {
            for (int to = from; to < 5; to++) {
                same("from " + from + " to " + to, log.run(from, to), due[from][to - from]);
            }
        }
        says(19, "from: a row");
        fromTo(DittoLog::run, 0);
        noFrom(DittoLog::run, UNKNOWN);
        says(19, "to: a row that is not ahead of it");
        same("the row itself", log.run(4, 4), 199);
        noTo(DittoLog::run, UNKNOWN);
        says(19, "Returns the run");
        same("the least", Logs.filled(48, NONE).run(0, 47), 0);
        says(19, "UNKNOWN (from or to)");
        same("from, and to is less", log.run(5, 0), UNKNOWN);
        same("to, and it is less", log.run(0, -1), UNKNOWN);
        same("both", log.run(-1, -2), UNKNOWN);
        same("without rows", new DittoLog().run(0, 0), UNKNOWN);
        says(19, "BAD_VALUE if to is less than from");
        ahead(DittoLog::run, BAD_VALUE);
    }

    private static long bits(double number) {
        return Double.doubleToLongBits(number);
    }

    private void north() {
        says(20, "Tells how far north some rows bring.");
        OfTwo north = (one, from, to) -> bits(one.north(from, to));
        sums(north, Logs.withRows("0,10,0,0", "4,30,0,0", "',20,0,0", "2,199,0,0"));
        way(20, north, Logs.withRows("3,10,0,0"));
    }

    private void east() {
        says(21, "Tells how far east some rows bring.");
        OfTwo east = (one, from, to) -> bits(one.east(from, to));
        sums(east, Logs.withRows("2,10,0,0", "6,30,0,0", "',20,0,0", "0,199,0,0"));
        way(21, east, Logs.withRows("7,10,0,0"));
    }

    /** Of four rows: one mile there, three and two miles back, and some across. */
    private void sums(OfTwo call, DittoLog log) {
        double[][] due = {{1.0, -2.0, -4.0, -4.0}, {-3.0, -5.0, -5.0}, {-2.0, -2.0}, {0.0}};
        for (int from = 0; from < 4; from++) {
            for (int to = from; to < 4; to++) {
                same("from " + from + " to " + to, call.on(log, from, to), bits(due[from][to - from]));
            }
        }
    }

    private void way(int promise, OfTwo call, DittoLog slantingBack) {
        says(promise, "from: a row");
        fromTo(call, bits(0.0));
        noFrom(call, bits(-9999.0));
        says(promise, "to: a row that is not ahead of it");
        same("the row itself", call.on(Logs.filled(4, 0), 3, 3), bits(0.0));
        noTo(call, bits(-9999.0));
        says(promise, "Returns the sum");
        same("a sum below 0", call.on(slantingBack, 0, 0), bits(-0.7071));
        says(promise, "-9999.0 if there is no such row, or to is less than from");
        ahead(call, bits(-9999.0));
        same("without rows", call.on(new DittoLog(), 0, 0), bits(-9999.0));
    }

    private void squareBits() {
        says(22, "from: a row");
        fromTo(DittoLog::squareBits, 0);
        noFrom(DittoLog::squareBits, UNKNOWN);
        says(22, "to: a row that is not ahead of it");
        DittoLog log = Logs.withRows("0,10,0,0", "0,10,0,0", "2,20,0,0");
        same("the row itself", log.squareBits(2, 2), 0x40800000);
        same("two rows", log.squareBits(0, 1), 0x40800000);
        same("three rows", log.squareBits(0, 2), 0x41000000);
        noTo(DittoLog::squareBits, UNKNOWN);
        says(22, "UNKNOWN (from or to)");
        same("from, and to is less", log.squareBits(3, 0), UNKNOWN);
        same("to, and it is less", log.squareBits(0, -1), UNKNOWN);
        same("without rows", new DittoLog().squareBits(0, 0), UNKNOWN);
        says(22, "BAD_VALUE if to is less than from");
        ahead(DittoLog::squareBits, BAD_VALUE);
    }

    private void floats() {
        says(22, "Tells the square of how far some rows bring, north * north + east * east as doubles, cast to a "
            + "float, as bits (Float.floatToIntBits).");
        same("nothing", Logs.withRows("-,199,0,0").squareBits(0, 0), 0);
        same("the least speed north: 0.01", Logs.withRows("0,1,0,0").squareBits(0, 0), 0x3c23d70a);
        double least = 0.1 * 0.7071;
        same("the least speed north-east", Logs.withRows("1,1,0,0").squareBits(0, 0), bitsOf(least, least));
        same("one mile west", Logs.withRows("6,10,0,0").squareBits(0, 0), 0x3f800000);
        same("one mile and a tenth", Logs.withRows("0,11,0,0").squareBits(0, 0), bitsOf(1.1, 0.0));
        same("nine tenths", Logs.withRows("0,9,0,0").squareBits(0, 0), bitsOf(0.9, 0.0));
        says(22, "Returns the bits");
        DittoLog log = new DittoLog();
        double north = 0.0;
        double east = 0.0;
        for (int row = 0; row < 48; row++) {
            log.addRow(3, 199, 0, 0);
            north += 19.9 * -0.7071;
            east += 19.9 * 0.7071;
            same("as far as can be, " + row, log.squareBits(0, row), bitsOf(north, east));
        }
        double rest = 0.0 + 1 / 10.0 * 0.7071 + 6 / 10.0 * 0.7071 + 7 / 10.0 * -0.7071;
        isTrue("what rounding leaves is not nothing", rest != 0.0);
        log = Logs.withRows("1,1,0,0", "1,6,0,0", "5,7,0,0");
        same("what rounding leaves, the least square", log.squareBits(0, 2), bitsOf(rest, rest));
        same("it is told as", log.squareBits(0, 2), 0x0a000000);
    }

    private static int bitsOf(double north, double east) {
        return Float.floatToIntBits((float) (north * north + east * east));
    }

    // ---- promise 23

    private void wouldChange() {
        says(23, "Tells how many cells would mean something else if a cell was corrected (however many entries it "
            + "has).");
        DittoLog log = Logs.withDittos(48, 5);
        for (int entries = 1; entries <= 4; entries++) {
            same("with " + entries + " entries", log.wouldChange(0, 0, 7), 48);
            same("the same with " + entries, log.wouldChange(0, 0, entries == 1 ? 5 : entries - 1), 0);
            log.correct(0, 0, entries);
        }
        same("nothing was done by it", log.cell(0, 0, 0), 3);
        says(23, "row: a row");
        rows((one, row) -> one.wouldChange(row, 0, 7), 1);
        says(23, "column: 0 to 3");
        columns((one, column) -> one.wouldChange(0, column, 7), 1);
        says(23, "entry: a number of the column's range, NONE or DITTO");
        entries(DittoLog::wouldChange, 1);
        says(23, "Returns how many");
        same("all 48", log.wouldChange(0, 1, NONE), 48);
        same("a ditto in the row 0", log.wouldChange(0, 1, DITTO), 48);
        same("the last one", log.wouldChange(47, 1, 0), 1);
        same("none, by what it means already", log.wouldChange(47, 1, 5), 0);
        same("none, by a ditto for a ditto", log.wouldChange(47, 1, DITTO), 0);
        log.set(1, 1);
        same("a page", log.wouldChange(0, 2, 0), 12);
        same("from the page's head", log.wouldChange(12, 2, 0), 12);
        same("a ditto at the page's head to a blank", log.wouldChange(12, 2, NONE), 0);
        same("the page's last row", log.wouldChange(11, 2, NONE), 1);
    }

    private void wouldChangeRefused() {
        says(23, "UNKNOWN (row or column)");
        noRows((one, row) -> one.wouldChange(row, 0, 7), UNKNOWN);
        noRows((one, row) -> one.wouldChange(row, 0, 8), UNKNOWN);
        beyond((one, column) -> one.wouldChange(0, column, 7), 0, 3, UNKNOWN);
        beyond((one, column) -> one.wouldChange(0, column, -1), 0, 3, UNKNOWN);
        says(23, "BAD_VALUE");
        noEntries(DittoLog::wouldChange);
        DittoLog log = Logs.filled(1, 0);
        for (int entry = 1; entry <= 3; entry++) {
            log.correct(0, 0, entry);
        }
        same("with four entries", log.wouldChange(0, 0, 8), BAD_VALUE);
    }

    // ---- promise 24

    private void countRows() {
        says(24, "what: 0 for the rows");
        for (int rows : new int[] {0, 1, 47, 48}) {
            same(rows + " rows", Logs.filled(rows, 0).count(0), rows);
        }
        says(24, "what: 1 for dittos (latest entries)");
        DittoLog log = Logs.filled(48, DITTO);
        same("all cells", log.count(1), 192);
        for (int column = 0; column < 4; column++) {
            log.correct(47, column, NONE);
            same("one less", log.count(1), 191 - column);
        }
        same("none", Logs.filled(48, 0).count(1), 0);
        says(24, "what: 2 for corrections");
        same("four", log.count(2), 4);
        log.takeBack(47, 3);
        same("three", log.count(2), 3);
        log.removeRow();
        same("none", log.count(2), 0);
        log = Logs.filled(38, 0);
        for (int i = 0; i < 456; i++) {
            log.correct(i / 12, i / 3 % 4, i % 3 + 1);
        }
        same("three in each of 152 cells", log.count(2), 456);
        says(24, "what: 3 for doubtful cells");
        log = Logs.filled(48, 0);
        for (int cell = 0; cell < 192; cell += 5) {
            log.correct(cell / 4, cell % 4, 1);
            same("single ones", log.count(3), cell / 5 + 1);
        }
        log = Logs.withDittos(48, 0);
        same("none", log.count(3), 0);
        for (int column = 0; column < 4; column++) {
            log.correct(0, column, 1);
            same("a column more", log.count(3), 48 * (column + 1));
        }
        says(24, "what: 4 for rows that are written out");
        same("one", log.count(4), 1);
        log.correct(0, 3, NONE);
        same("none", log.count(4), 0);
        same("all", Logs.filled(48, 0).count(4), 48);
        says(24, "what: 5 for watches with rows");
        int[][] due = {{0, 0}, {1, 1}, {4, 1}, {5, 2}, {47, 12}, {48, 12}};
        for (int[] one : due) {
            same(one[0] + " rows", Logs.filled(one[0], 0).count(5), one[1]);
        }
    }

    private void countOwnSums() {
        says(24, "what: 6 for watches with rows whose own sum is not their run (blank ones are none of them)");
        DittoLog log = Logs.filled(48, 2);
        log.set(2, 2);
        same("all blank", log.count(6), 0);
        for (int watch = 0; watch < 24; watch++) {
            log.claim(watch, 4 + watch % 3 - 1);
        }
        same("a third is right", log.count(6), 16);
        log.claim(23, NONE);
        same("a blank one", log.count(6), 15);
        log.removeRow();
        same("a blank one of another run", log.count(6), 15);
        log.removeRow();
        log.removeRow();
        same("the last one has another run now", log.count(6), 16);
        log.removeRow();
        same("and no rows now", log.count(6), 15);
        log = new DittoLog();
        log.claim(0, 5);
        same("no rows at all", log.count(6), 0);
        log.addRow(0, 0, 0, 0);
        same("a row", log.count(6), 1);
        log.claim(0, 0);
        same("the sum 0 for the run 0", log.count(6), 0);
    }

    private void countOthers() {
        says(24, "what: 7 to 9 for the settings");
        int[][] values = {{12, 4}, {0, 1}, {4, 6}};
        DittoLog log = new DittoLog();
        for (int which = 0; which < 3; which++) {
            same("first value of " + which, log.count(7 + which), values[which][0]);
            log.set(which, values[which][1]);
            same("set value of " + which, log.count(7 + which), values[which][1]);
        }
        says(24, "what: 10 for the states in the history");
        for (int acts = 0; acts <= 6; acts++) {
            same(acts + " acts", Logs.filled(acts, 0).count(10), Math.min(acts, 4));
        }
        says(24, "what: 11 for the length of the text");
        log = new DittoLog();
        for (int length = 0; length < 60; length++) {
            same("length " + length, log.count(11), length);
            log.type('x');
        }
        log.type('x');
        same("length 60", log.count(11), 60);
        says(24, "Returns the number");
        int[] empty = {0, 0, 0, 0, 0, 0, 0, 12, 0, 4, 0, 0};
        for (int what = 0; what < empty.length; what++) {
            same("without rows, " + what, new DittoLog().count(what), empty[what]);
        }
        says(24, "BAD_VALUE");
        whats((one, what) -> one.count(what), 11);
        same("without rows", new DittoLog().count(12), BAD_VALUE);
    }
}
