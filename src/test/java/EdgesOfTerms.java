/** The edges that the document's "Terms" name: rows and cells, pages and watches, dead reckoning, texts. */
final class EdgesOfTerms extends EdgeChecks {
    EdgesOfTerms(Edges edges) {
        super(edges);
    }

    @Override
    void all() {
        calls();
        rows();
        columnsAndRanges();
        entriesOfCell();
        kindsOfEntries();
        meanings();
        dittosAtPages();
        sources();
        chains();
        doubts();
        doubtsAtPages();
        settings();
        firstRowsOfPages();
        rowsOfWatches();
        watchesThatAreNeeded();
        runs();
        keepers();
        ownSums();
        rowsThatCount();
        ways();
        sumsOfDoubles();
        sizeOfText();
        textsOfRows();
        endsOfTexts();
        placesOfFaults();
    }

    private void calls() {
        says("An object is used for at most 512 calls after it has been made; what later calls answer is free.");
        DittoLog log = Logs.filled(48, 0);
        for (int call = 49; call <= 511; call++) {
            int cell = (call - 49) / 3;
            int entry = (call - 49) % 3 == 1 ? 0 : 1;
            same("call " + call, log.correct(cell / 4, cell % 4, entry), 1);
        }
        same("call 512", log.count(2), 463);
    }

    // ---- rows and cells

    private void rows() {
        says("There are at most 48 rows, numbered from 0, one for each hour.");
        DittoLog log = new DittoLog();
        same("row 0 of none", log.isWritten(0), UNKNOWN);
        for (int row = 0; row < 48; row++) {
            same("row " + row, log.addRow(0, 0, 0, 0), row);
        }
        same("the 49th", log.addRow(0, 0, 0, 0), FULL);
        same("there are 48", log.count(0), 48);
        same("row -1", log.isWritten(-1), UNKNOWN);
        same("row 0", log.isWritten(0), 1);
        same("row 47", log.isWritten(47), 1);
        same("row 48", log.isWritten(48), UNKNOWN);
        same("the 48th is removed", log.removeRow(), 47);
        same("row 47", log.isWritten(47), UNKNOWN);
        same("the 48th again", log.addRow(0, 0, 0, 0), 47);
        same("the 49th again", log.addRow(0, 0, 0, 0), FULL);
    }

    private void columnsAndRanges() {
        says("A row has four cells, in the columns 0 course (0 to 7: north, north-east, east, south-east, south, "
            + "south-west, west, north-west), 1 speed (0 to 199, in tenths of knots), 2 wind (0 to 12), "
            + "3 keeper (0 to 9).");
        for (int column = 0; column < 4; column++) {
            DittoLog log = new DittoLog();
            same("least of " + column, Logs.addRowWith(log, column, 0), 0);
            same("greatest of " + column, Logs.addRowWith(log, column, GREATEST[column]), 1);
            same("one more than it", Logs.addRowWith(log, column, GREATEST[column] + 1), BAD_VALUE);
            same("one less than 0", Logs.addRowWith(log, column, -1), BAD_VALUE);
            same("0 is kept", log.cell(0, column, 0), 0);
            same("the greatest is kept", log.cell(1, column, 0), GREATEST[column]);
            same("the cells beside it are blank", log.cell(1, (column + 1) % 4, 0), NONE);
        }
        DittoLog log = new DittoLog();
        log.addRow(7, 199, 12, 9);
        same("column 0", log.cell(0, 0, 0), 7);
        same("column 1", log.cell(0, 1, 0), 199);
        same("column 2", log.cell(0, 2, 0), 12);
        same("column 3", log.cell(0, 3, 0), 9);
        same("column 4", log.cell(0, 4, 0), UNKNOWN);
        same("column -1", log.cell(0, -1, 0), UNKNOWN);
        same("tenths of knots: ten of them bring 1.0", (long) Logs.withRows("0,10,-,-").north(0, 0), 1);
    }

    private void entriesOfCell() {
        says("A cell has entries, one above the other, 1 to 4: the first one, and corrections; the latest one counts.");
        DittoLog log = Logs.filled(2, 5);
        for (int entries = 1; entries <= 4; entries++) {
            same("its entries", log.cell(1, 1, 2), entries);
            same("the latest counts", log.cell(1, 1, 0), 4 + entries);
            same("the first stays", log.entry(1, 1, 0), 5);
            same("the last of them", log.entry(1, 1, entries - 1), 4 + entries);
            same("one more is not there", log.entry(1, 1, entries), BAD_VALUE);
            same("one more", log.correct(1, 1, 5 + entries), entries < 4 ? 1 : FULL);
        }
        same("four entries", log.cell(1, 1, 2), 4);
        same("the cell above it has one", log.cell(0, 1, 2), 1);
        same("the cell beside it has one", log.cell(1, 2, 2), 1);
        for (int entries = 3; entries >= 1; entries--) {
            same("one is taken", log.takeBack(1, 1), 1);
            same("entries left", log.cell(1, 1, 2), entries);
            same("the latest of them counts", log.cell(1, 1, 0), 4 + entries);
        }
        same("the first one can't be taken", log.takeBack(1, 1), NOT_POSSIBLE);
        same("it stays", log.entry(1, 1, 0), 5);
    }

    private void kindsOfEntries() {
        says("An entry is a number of the column's range, a blank, or a ditto mark.");
        for (int column = 0; column < 4; column++) {
            DittoLog log = new DittoLog();
            int[] entries = {0, GREATEST[column], NONE, DITTO};
            for (int row = 0; row < entries.length; row++) {
                same("it is taken", Logs.addRowWith(log, column, entries[row]), row);
                same("it is written", log.entry(row, column, 0), entries[row]);
            }
            for (int wrong : new int[] {UNKNOWN, BAD_VALUE, FULL, NOT_POSSIBLE, DITTO - 1, GREATEST[column] + 1}) {
                same("no entry: " + wrong, Logs.addRowWith(log, column, wrong), BAD_VALUE);
                same("no correction: " + wrong, log.correct(0, column, wrong), BAD_VALUE);
            }
        }
    }

    private void meanings() {
        says("What a cell means: a number means itself; a blank means nothing; a ditto means what the cell above it "
            + "(in the row before, in the same column) means, and nothing in the row 0.");
        DittoLog log = Logs.withRows("',0,-,9", "1,',',0", "',',',-", "-,199,12,'", "',',',5");
        int[][] due = {
            {NONE, 0, NONE, 9}, {1, 0, NONE, 0}, {1, 0, NONE, NONE}, {NONE, 199, 12, NONE}, {NONE, 199, 12, 5},
        };
        for (int stops = 0; stops < 2; stops++) {
            log.set(1, stops);
            for (int cell = 0; cell < 20; cell++) {
                int want = due[cell / 4][cell % 4];
                same("row " + cell / 4 + ", column " + cell % 4, log.cell(cell / 4, cell % 4, 0), want);
            }
        }
        log = Logs.withDittos(48, 7);
        same("a ditto 47 rows below", log.cell(47, 0, 0), 7);
        log.correct(0, 0, DITTO);
        same("a ditto in the row 0", log.cell(0, 0, 0), NONE);
        same("all below it", log.cell(47, 0, 0), NONE);
        same("not the column beside it", log.cell(47, 1, 0), 7);
    }

    private void dittosAtPages() {
        says("If the setting 1 is 1, a ditto in the first row of a page means nothing, too.");
        for (int page = 4; page <= 12; page++) {
            DittoLog log = Logs.withDittos(25, 3);
            log.set(0, page);
            same("over the page of " + page, log.cell(page, 0, 0), 3);
            log.set(1, 1);
            same("the last row of the page of " + page, log.cell(page - 1, 0, 0), 3);
            same("the first of the next", log.cell(page, 0, 0), NONE);
            same("the second of the next", log.cell(page + 1, 0, 0), NONE);
            same("the first of the third", log.cell(2 * page, 0, 0), NONE);
            same("a number in the first row", log.correct(page, 0, 5), page);
            same("it means itself", log.cell(page, 0, 0), 5);
            same("the last row of its page", log.cell(2 * page - 1, 0, 0), 5);
            same("the first of the third", log.cell(2 * page, 0, 0), NONE);
            log.set(1, 0);
            same("over the pages again", log.cell(2 * page, 0, 0), 5);
            same("and beside it", log.cell(24, 1, 0), 3);
        }
    }

    private void sources() {
        says("The source of a cell that means a number is the row of the cell where that number is written: its own "
            + "row, or a row above.");
        DittoLog log = Logs.withDittos(48, 0);
        same("its own row", log.cell(0, 0, 1), 0);
        same("the row above", log.cell(1, 0, 1), 0);
        same("47 rows above", log.cell(47, 0, 1), 0);
        log.correct(46, 0, 0);
        same("its own row, the same number", log.cell(46, 0, 1), 46);
        same("the row above that", log.cell(47, 0, 1), 46);
        same("above it as before", log.cell(45, 0, 1), 0);
        log.correct(47, 0, 7);
        same("the last row", log.cell(47, 0, 1), 47);
        log.correct(0, 0, NONE);
        same("a blank has none", log.cell(0, 0, 1), NONE);
        same("a ditto of a blank has none", log.cell(45, 0, 1), NONE);
        log.correct(0, 1, DITTO);
        same("a ditto in the row 0 has none", log.cell(0, 1, 1), NONE);
        log.set(1, 1);
        same("the page's last row", log.cell(11, 2, 1), 0);
        same("a ditto at the page's head has none", log.cell(12, 2, 1), NONE);
        same("the row below it has none", log.cell(13, 2, 1), NONE);
    }

    private void chains() {
        says("The chain of a cell is the cell, and, as long as the last one has a ditto that means what is above it "
            + "(also if that means nothing), the cell above that.");
        DittoLog log = Logs.withRows("1,-,',7", "',',',7", "',',','");
        int[][] due = {{1, 1, 1, 1}, {2, 2, 2, 1}, {3, 3, 3, 2}};
        for (int cell = 0; cell < 12; cell++) {
            same("row " + cell / 4 + ", column " + cell % 4, log.cell(cell / 4, cell % 4, 3), due[cell / 4][cell % 4]);
        }
        log = Logs.withDittos(48, 0);
        same("all 48 rows", log.cell(47, 3, 3), 48);
        log.set(1, 1);
        same("the page's last row", log.cell(11, 3, 3), 12);
        same("a ditto at the page's head", log.cell(12, 3, 3), 1);
        same("the row below it", log.cell(13, 3, 3), 2);
        same("the last page's last row", log.cell(47, 3, 3), 12);
        log.correct(13, 3, NONE);
        same("a blank", log.cell(13, 3, 3), 1);
        same("below the blank", log.cell(14, 3, 3), 2);
    }

    private void doubts() {
        says("A cell is doubtful if any cell of its chain has more than one entry.");
        DittoLog log = Logs.withDittos(48, 0);
        same("one entry everywhere", log.column(0, 6), 0);
        log.correct(47, 0, 5);
        same("two entries in the last row", log.cell(47, 0, 4), 1);
        same("not above it", log.cell(46, 0, 4), 0);
        log.correct(47, 0, DITTO);
        same("three, and a ditto again", log.cell(47, 0, 4), 1);
        same("only that one", log.column(0, 6), 1);
        log.correct(24, 0, 0);
        log.correct(24, 0, DITTO);
        same("in the middle of the chain", log.column(0, 6), 24);
        same("the one above it", log.cell(23, 0, 4), 0);
        log.correct(0, 0, 1);
        same("at the top of the chain", log.column(0, 6), 48);
        same("the last row by it", log.cell(47, 0, 4), 1);
        same("not the column beside it", log.column(1, 6), 0);
        log.takeBack(0, 0);
        same("taken back", log.cell(23, 0, 4), 0);
        same("down from the middle as before", log.column(0, 6), 24);
        log.takeBack(24, 0);
        same("two entries are enough", log.column(0, 6), 24);
        log.takeBack(24, 0);
        same("one entry is not", log.column(0, 6), 1);
    }

    private void doubtsAtPages() {
        DittoLog log = Logs.withDittos(48, 0);
        log.set(1, 1);
        log.correct(11, 0, 7);
        same("the page's last row", log.cell(11, 0, 4), 1);
        same("not the next page's first", log.cell(12, 0, 4), 0);
        log.correct(12, 0, NONE);
        log.correct(12, 0, DITTO);
        same("a ditto at the page's head", log.cell(12, 0, 4), 1);
        same("down to the page's end", log.cell(23, 0, 4), 1);
        same("not beyond it", log.cell(24, 0, 4), 0);
        same("a row and a page", log.column(0, 6), 13);
        log.set(1, 0);
        same("down from the row 11", log.column(0, 6), 37);
    }

    // ---- pages and watches

    private void settings() {
        says("The settings are (in parentheses: range; first value): 0 the rows of a page (4 to 12; 12), 1 whether "
            + "dittos stop at pages (0 or 1; 0), 2 the rows of a watch (2 to 6; 4).");
        int[] least = {4, 0, 2};
        int[] greatest = {12, 1, 6};
        int[] first = {12, 0, 4};
        for (int which = 0; which < 3; which++) {
            DittoLog log = new DittoLog();
            same("the first value of " + which, log.count(7 + which), first[which]);
            same("it is so already", log.set(which, first[which]), NONE);
            same("one less than the least", log.set(which, least[which] - 1), BAD_VALUE);
            same("one more than the greatest", log.set(which, greatest[which] + 1), BAD_VALUE);
            int before = first[which];
            for (int value = least[which]; value <= greatest[which]; value++) {
                same("setting " + which + " to " + value, log.set(which, value), value == before ? NONE : before);
                same("it is " + value, log.count(7 + which), value);
                before = value;
            }
        }
    }

    private void firstRowsOfPages() {
        says("The row r is the first one of a page if r can be divided by the rows of a page; it is in the watch "
            + "r / rows of a watch, rounded down.");
        for (int page = 4; page <= 12; page++) {
            DittoLog log = Logs.withDittos(48, 1);
            log.set(0, page);
            log.set(1, 1);
            for (int row = 0; row < 48; row++) {
                same("a page of " + page + ", row " + row, log.cell(row, 2, 3), row % page + 1);
            }
        }
    }

    private void rowsOfWatches() {
        for (int size = 2; size <= 6; size++) {
            DittoLog log = new DittoLog();
            log.set(2, size);
            int[] runs = new int[24];
            for (int row = 0; row < 48; row++) {
                log.addRow(0, row + 1, 0, 0);
                runs[row / size] += row + 1;
            }
            for (int watch = 0; watch * size < 48; watch++) {
                same("watches of " + size + ": the run of " + watch, log.watch(watch, 1), runs[watch]);
            }
        }
        DittoLog log = Logs.filled(5, 0);
        log.correct(3, 1, 100);
        log.correct(4, 1, 7);
        same("row 3 is in the watch 0", log.watch(0, 1), 100);
        same("row 4 is in the watch 1", log.watch(1, 1), 7);
    }

    private void watchesThatAreNeeded() {
        says("Watches are numbered from 0; there are as many as rows need.");
        int[][] due = { // rows of a watch, rows, watches, rows of the last watch
            {4, 1, 1, 1}, {4, 3, 1, 3}, {4, 4, 1, 4}, {4, 5, 2, 1}, {4, 8, 2, 4}, {4, 9, 3, 1}, {4, 48, 12, 4},
            {2, 1, 1, 1}, {2, 2, 1, 2}, {2, 3, 2, 1}, {2, 47, 24, 1}, {2, 48, 24, 2},
            {3, 47, 16, 2}, {3, 48, 16, 3}, {5, 45, 9, 5}, {5, 46, 10, 1}, {5, 48, 10, 3},
            {6, 6, 1, 6}, {6, 7, 2, 1}, {6, 42, 7, 6}, {6, 43, 8, 1}, {6, 48, 8, 6},
        };
        for (int[] one : due) {
            DittoLog log = Logs.filled(one[1], 0);
            log.set(2, one[0]);
            String where = one[1] + " rows, " + one[0] + " a watch: ";
            same(where + "watches", log.count(5), one[2]);
            same(where + "rows of the last watch", log.watch(one[2] - 1, 0), one[3]);
            same(where + "one watch more", log.watch(one[2], 0), UNKNOWN);
        }
        DittoLog log = new DittoLog();
        same("none without rows", log.count(5), 0);
        same("no watch 0 without rows", log.watch(0, 0), UNKNOWN);
        log.addRow(0, 0, 0, 0);
        same("one by one row", log.watch(0, 0), 1);
        log.removeRow();
        same("none again", log.watch(0, 0), UNKNOWN);
    }

    private void runs() {
        says("The run of some rows is the sum of all speeds that their cells mean.");
        DittoLog log = Logs.withRows("0,',0,0", "0,0,0,0", "0,199,0,0", "0,',0,0", "0,-,0,0", "0,',0,0", "-,1,-,-");
        same("a ditto in the row 0", log.run(0, 0), 0);
        same("the speed 0", log.run(1, 1), 0);
        same("the greatest speed", log.run(2, 2), 199);
        same("by ditto once more", log.run(2, 3), 398);
        same("nothing by a blank", log.run(4, 4), 0);
        same("nothing by a ditto of a blank", log.run(4, 5), 0);
        same("the speed alone, without a course", log.run(6, 6), 1);
        same("all rows", log.run(0, 6), 399);
        log = new DittoLog();
        for (int row = 0; row < 48; row++) {
            log.addRow(NONE, row == 0 ? 199 : DITTO, NONE, NONE);
        }
        same("the longest run", log.run(0, 47), 9552);
        same("the longest run of a watch", log.watch(11, 1), 796);
    }

    private void keepers() {
        says("The keeper of a watch is the keeper that most cells of its rows mean, of several the one with the "
            + "lowest number; none, if no cell means any.");
        same("two of 9, one of 0, one of 1", keeperOf("9", "0", "1", "9"), 9);
        same("two of 9 and two of 0", keeperOf("9", "9", "0", "0"), 0);
        same("one of each: the lowest", keeperOf("3", "2", "9", "8"), 2);
        same("three of 9 and one of 0", keeperOf("9", "9", "9", "0"), 9);
        same("by dittos", keeperOf("1", "2", "'", "'"), 2);
        same("a ditto in the row 0 means none", keeperOf("'", "'", "'", "9"), 9);
        same("blanks are no keeper", keeperOf("-", "-", "-", "4"), 4);
        same("none at all", keeperOf("-", "'", "-", "'"), NONE);
        same("a watch of one row", keeperOf("0"), 0);
        DittoLog log = Logs.withRows("0,0,0,5", "0,0,0,5", "0,0,0,5", "0,0,0,5", "0,0,0,8", "0,0,0,7");
        same("only of its own rows", log.watch(1, 2), 7);
        same("a cell that leans over the watch", Logs.withDittos(5, 6).watch(1, 2), 6);
    }

    private static int keeperOf(String... keepers) {
        String[] rows = new String[keepers.length];
        for (int row = 0; row < rows.length; row++) {
            rows[row] = "0,0,0," + keepers[row];
        }
        return Logs.withRows(rows).watch(0, 2);
    }

    private void ownSums() {
        says("A keeper's own sum can be written for each of the 24 watches that there could be (0 to 9999), or be "
            + "blank (at first).");
        DittoLog log = new DittoLog();
        for (int watch = 0; watch < 24; watch++) {
            same("blank at first: " + watch, log.claim(watch, NONE), NONE);
            same("the least sum of " + watch, log.claim(watch, 0), 10000 - 5);
            same("the greatest sum of " + watch, log.claim(watch, 9999), 10000);
        }
        for (int watch = 0; watch < 24; watch++) {
            same("each has its own: " + watch, log.claim(watch, 100 + watch), 19999);
        }
        for (int watch = 0; watch < 24; watch++) {
            same("none is another's: " + watch, log.claim(watch, NONE), 10100 + watch);
        }
        same("watch -1", log.claim(-1, 0), UNKNOWN);
        same("watch 24", log.claim(24, 0), UNKNOWN);
        same("a sum of -1", log.claim(0, -1), BAD_VALUE);
        same("a sum of 10000", log.claim(0, 10000), BAD_VALUE);
    }

    // ---- dead reckoning

    private void rowsThatCount() {
        says("A row counts for dead reckoning if its course and its speed both mean a number.");
        sameDouble("both", Logs.withRows("0,10,-,-").north(0, 0), 1.0);
        sameDouble("no course", Logs.withRows("-,10,0,0").north(0, 0), 0.0);
        sameDouble("no speed", Logs.withRows("0,-,0,0").north(0, 0), 0.0);
        sameDouble("neither", Logs.withRows("-,-,0,0").north(0, 0), 0.0);
        sameDouble("dittos in the row 0", Logs.withRows("',',0,0").north(0, 0), 0.0);
        DittoLog log = Logs.withRows("0,10,-,-", "',',-,-", "-,',-,-", "',',-,-", "0,-,-,-", "',',-,-", "',10,-,-");
        sameDouble("by dittos", log.north(1, 1), 1.0);
        sameDouble("a ditto of a blank course", log.north(3, 3), 0.0);
        sameDouble("a ditto of a blank speed", log.north(5, 5), 0.0);
        sameDouble("a course from above a blank speed", log.north(6, 6), 1.0);
        sameDouble("three of seven count", log.north(0, 6), 3.0);
        sameDouble("the course 0 and the speed 0 are numbers", Logs.withRows("0,0,0,0").north(0, 0), 0.0);
    }

    private void ways() {
        says("The way north of the course 0 to 7 is 1.0, 0.7071, 0.0, -0.7071, -1.0, -0.7071, 0.0, 0.7071; its way "
            + "east is that of the course two less (of the course 0 that of 6, of 1 that of 7).");
        double[] north = {1.0, 0.7071, 0.0, -0.7071, -1.0, -0.7071, 0.0, 0.7071};
        double[] east = {0.0, 0.7071, 1.0, 0.7071, 0.0, -0.7071, -1.0, -0.7071};
        for (int course = 0; course < 8; course++) {
            DittoLog log = new DittoLog();
            log.addRow(course, 10, 0, 0);
            sameDouble("north of " + course, log.north(0, 0), north[course]);
            sameDouble("east of " + course, log.east(0, 0), east[course]);
        }
    }

    private void sumsOfDoubles() {
        says("How far north some rows bring is a sum of doubles, beginning with 0.0: for each row that counts, in "
            + "their order, speed / 10.0 times the way north is added; likewise east.");
        DittoLog log = Logs.withRows("3,5,0,0", "5,98,0,0", "1,56,0,0");
        double north = 0.0 + 5 / 10.0 * -0.7071 + 98 / 10.0 * -0.7071 + 56 / 10.0 * 0.7071;
        double east = 0.0 + 5 / 10.0 * 0.7071 + 98 / 10.0 * -0.7071 + 56 / 10.0 * 0.7071;
        double backwards = 0.0 + 56 / 10.0 * 0.7071 + 98 / 10.0 * -0.7071 + 5 / 10.0 * -0.7071;
        isTrue("another order would tell another sum", north != backwards);
        sameDouble("north in their order", log.north(0, 2), north);
        sameDouble("east in their order", log.east(0, 2), east);
        sameDouble("0.0 without a row that counts", Logs.filled(1, NONE).east(0, 0), 0.0);
        sameDouble("0.0 and not -0.0, north", Logs.withRows("4,0,0,0").north(0, 0), 0.0);
        sameDouble("0.0 and not -0.0, east", Logs.withRows("6,0,0,0").east(0, 0), 0.0);
        farthest();
    }

    private void farthest() {
        DittoLog log = new DittoLog();
        double sum = 0.0;
        for (int row = 0; row < 48; row++) {
            log.addRow(row == 0 ? 4 : DITTO, row == 0 ? 199 : DITTO, 0, 0);
            sum = sum + 19.9 * -1.0;
        }
        sameDouble("the farthest", log.north(0, 47), sum);
        sameDouble("no way east", log.east(0, 47), 0.0);
    }

    // ---- texts

    private void sizeOfText() {
        says("There is a text of at most 60 characters, empty at first.");
        DittoLog log = new DittoLog();
        same("empty at first", log.count(11), 0);
        for (int length = 1; length <= 60; length++) {
            same("character " + length, log.type('-'), length);
        }
        same("the 61st", log.type('-'), FULL);
        same("60 are there", log.count(11), 60);
        same("60 are emptied", log.clearText(), 60);
        same("a first one again", log.type('-'), 1);
    }

    private void textsOfRows() {
        says("A text of rows is one or more rows with \";\" between two; a row is four cells with \",\" between two, "
            + "in the order of the columns: a number of the column's range (without a zero in front unless it is the "
            + "single digit 0; a digit by which it would be greater is not allowed), \"-\" (a blank), or \"'\" (a "
            + "ditto).");
        same("one row", answerTo("7,199,12,9"), 1);
        same("two rows", answerTo("0,0,0,0;-,-,-,-"), 2);
        same("seven rows, the most that there is room for",
            answerTo("-,-,-,-;',',',';0,0,0,0;-,-,-,-;',',',';0,0,0,0;-,-,-,-"), 7);
        same("sixty characters", answerTo("1,100,1,1;1,100,1,1;1,100,1,1;1,100,1,1;1,100,1,1;1,100,10,1"), 6);
        int[] onMore = {-100, -104, -105, -107};
        for (int column = 0; column < 4; column++) {
            same("0 in " + column, answerTo(rowWith(column, "0")), 1);
            same("the greatest in " + column, answerTo(rowWith(column, "" + GREATEST[column])), 1);
            same("one more in " + column, answerTo(rowWith(column, "" + (GREATEST[column] + 1))), onMore[column]);
            same("a blank in " + column, answerTo(rowWith(column, "-")), 1);
            same("a ditto in " + column, answerTo(rowWith(column, "'")), 1);
            int[] kept = {0, GREATEST[column], NONE, DITTO};
            String[] written = {"0", "" + GREATEST[column], "-", "'"};
            for (int i = 0; i < kept.length; i++) {
                same("it is kept", Logs.withRows(rowWith(column, written[i])).entry(0, column, 0), kept[i]);
            }
        }
        signsAtPlaces();
    }

    private static int answerTo(String text) {
        DittoLog log = new DittoLog();
        Logs.typeText(log, text);
        return log.addRows();
    }

    private static String rowWith(int column, String cell) {
        String[] cells = {"1", "1", "1", "1"};
        cells[column] = cell;
        return String.join(",", cells);
    }

    /** What stands so far, and all signs that may come next. */
    private void signsAtPlaces() {
        String[][] places = {
            {"", "01234567-'"}, {"0", ","}, {"1", ","}, {"7", ","}, {"-", ","}, {"'", ","},
            {"0,", "0123456789-'"}, {"0,0", ","}, {"0,1", "0123456789,"}, {"0,9", "0123456789,"},
            {"0,19", "0123456789,"}, {"0,20", ","}, {"0,100", ","}, {"0,199", ","}, {"0,-", ","}, {"0,'", ","},
            {"0,0,", "0123456789-'"}, {"0,0,0", ","}, {"0,0,1", "012,"}, {"0,0,2", ","}, {"0,0,9", ","},
            {"0,0,10", ","}, {"0,0,12", ","}, {"0,0,-", ","}, {"0,0,'", ","},
            {"0,0,0,", "0123456789-'"}, {"0,0,0,0", ";"}, {"0,0,0,1", ";"}, {"0,0,0,9", ";"}, {"0,0,0,-", ";"},
            {"0,0,0,'", ";"}, {"0,0,0,0;", "01234567-'"}, {"0,0,0,0;0", ","}, {"0,0,0,0;0,0,0,0", ";"},
        };
        for (String[] place : places) {
            for (int sign = 0; sign < 320; sign++) {
                sign(place[0], (char) sign, place[1].indexOf(sign) >= 0);
            }
            for (int far : new int[] {0x660, 0x2019, 0x2212, 0xff0c, 0xff10, 0x1030, 0xffff}) {
                sign(place[0], (char) far, false);
            }
        }
    }

    private void sign(String before, char sign, boolean allowed) {
        int answer = answerTo(before + sign);
        String call = "the sign " + (int) sign + " behind " + before;
        if (allowed) {
            isTrue(call + " is allowed", answer > 0 || answer == -100 - before.length() - 1);
        } else {
            same(call, answer, -100 - before.length());
        }
    }

    private void endsOfTexts() {
        says("The fault of the text is the index, from 0, of the first character that is not allowed at its place, "
            + "or the length of the text if it ends too early (the empty text does).");
        String text = "1,2,3,4;5,6,7,8";
        for (int length = 0; length <= text.length(); length++) {
            int due = length == 7 ? 1 : length == 15 ? 2 : -100 - length;
            same("it ends at " + length, answerTo(text.substring(0, length)), due);
        }
        same("the empty text", new DittoLog().addRows(), -100);
        same("a cell is missing at the end", answerTo("1,2,3,"), -106);
        same("a row is missing at the end", answerTo("1,2,3,4;"), -108);
        same("sixty characters that end too early",
            answerTo("0,100,10,0;0,100,10,0;0,100,10,0;0,100,10,0;0,100,10,0;0,100"), -160);
        same("sixty characters, the last is not allowed",
            answerTo("0,100,10,0;0,100,10,0;0,100,10,0;0,100,10,0;0,100,10,0;0,200"), -159);
        same("sixty characters, the first is not allowed",
            answerTo("8,100,10,0;0,100,10,0;0,100,10,0;0,100,10,0;0,100,10,0;0,100"), -100);
    }

    private void placesOfFaults() {
        same("only the first one counts", answerTo("0,0,0,8,8,8;9"), -107);
        same("a course of two digits", answerTo("10,0,0,0"), -101);
        same("a zero in front of a course", answerTo("07,0,0,0"), -101);
        same("two zeros", answerTo("0,00,0,0"), -103);
        same("a zero in front of a speed", answerTo("0,099,0,0"), -103);
        same("a speed of 200", answerTo("0,200,0,0"), -104);
        same("a speed of 1000", answerTo("0,1000,0,0"), -105);
        same("a wind of 13", answerTo("0,0,13,0"), -105);
        same("a wind of 20", answerTo("0,0,20,0"), -105);
        same("a wind of 120", answerTo("0,0,120,0"), -106);
        same("a keeper of 10", answerTo("0,0,0,10"), -107);
        same("an empty cell", answerTo("0,,0,0"), -102);
        same("an empty row", answerTo("0,0,0,0;;0,0,0,0"), -108);
        same("a row of three cells", answerTo("0,0,0;0,0,0,0"), -105);
        same("a row of five cells", answerTo("0,0,0,0,0"), -107);
        same("a ; at the end", answerTo("0,0,0,0;0,0,0,0;"), -116);
        same("a number behind a blank", answerTo("-1,0,0,0"), -101);
        same("a number behind a ditto", answerTo("'1,0,0,0"), -101);
        same("a blank behind a number", answerTo("1-,0,0,0"), -101);
        same("the seventh row", answerTo("-,-,-,-;-,-,-,-;-,-,-,-;-,-,-,-;-,-,-,-;-,-,-,-;-,-,-,--"), -155);
    }
}
