/** The edges that the document names of the history, the snapshot and what a state is. */
final class EdgesOfHistory extends EdgeChecks {
    EdgesOfHistory(Edges edges) {
        super(edges);
    }

    @Override
    void all() {
        atMostFour();
        aroundTheRing();
        entriesWrittenOver();
        acts();
        noActs();
        snapshot();
        statesHaveNoText();
        statesHaveNoHistory();
    }

    private void atMostFour() {
        says("A history of at most 4 states is kept; when one more is recorded, the oldest one is dropped; undo() "
            + "removes and restores the latest one.");
        for (int acts = 0; acts <= 12; acts++) {
            DittoLog log = Logs.filled(acts, 0);
            same("states after " + acts + " acts", log.count(10), Math.min(acts, 4));
            for (int undos = 1; undos <= Math.min(acts, 4); undos++) {
                same("states that are left", log.undo(), Math.min(acts, 4) - undos);
                same("the latest is restored", log.count(0), acts - undos);
            }
            same("no more of them", log.undo(), NONE);
            same("the oldest ones are dropped", log.count(0), Math.max(0, acts - 4));
        }
    }

    private void aroundTheRing() {
        for (int acts = 1; acts <= 9; acts++) {
            for (int undos = 1; undos <= Math.min(acts, 4); undos++) {
                DittoLog log = Logs.filled(acts, 0);
                for (int i = 0; i < undos; i++) {
                    log.undo();
                }
                int left = Math.min(acts, 4) - undos;
                for (int more = 1; more <= 5; more++) {
                    log.addRow(7, 7, 7, 7);
                    same("states after " + more + " more", log.count(10), Math.min(left + more, 4));
                }
                log.undo();
                log.undo();
                log.undo();
                same("the fourth undo", log.undo(), 0);
                same("leaves one of the five", log.count(0), acts - undos + 1);
                same("which is the first of them", log.cell(acts - undos, 0, 0), 7);
            }
        }
    }

    /** What was written over by later entries is there again, by undo and by restore. */
    private void entriesWrittenOver() {
        DittoLog log = Logs.filled(48, 1);
        log.correct(47, 3, 2);
        log.keep();
        log.takeBack(47, 3);
        log.correct(47, 3, 3);
        log.removeRow();
        log.addRow(4, 4, 4, 4);
        log.undo();
        log.undo();
        same("the row that was removed", log.cell(47, 0, 0), 1);
        same("its first entry", log.entry(47, 3, 0), 1);
        same("its correction", log.entry(47, 3, 1), 3);
        log.undo();
        same("the correction is gone", log.cell(47, 3, 2), 1);
        log.undo();
        same("the one that was taken back", log.entry(47, 3, 1), 2);
        log.removeRow();
        log.addRow(DITTO, 5, 5, NONE);
        log.correct(47, 3, 6);
        log.restore();
        same("the row of the snapshot", log.cell(47, 0, 0), 1);
        same("its first entry", log.entry(47, 3, 0), 1);
        same("its correction", log.entry(47, 3, 1), 2);
        log.undo();
        same("the row ahead of restore", log.entry(47, 0, 0), DITTO);
        same("its correction", log.entry(47, 3, 1), 6);
    }

    private void acts() {
        says("Each call of a method that is described as an act, and returns no error and not NONE, records the state "
            + "that was before it.");
        OfOne[] acts = {
            (log, row) -> log.addRow(0, 0, 0, 0), (log, row) -> log.addRows(), (log, row) -> log.removeRow(),
            (log, row) -> log.correct(1, 1, 5), (log, row) -> log.takeBack(1, 1), (log, row) -> log.claim(23, 0),
            (log, row) -> log.set(1, 1), (log, row) -> log.restore(),
        };
        for (OfOne act : acts) {
            isAct(act);
        }
        DittoLog log = Logs.filled(2, 0);
        same("an act that changes no meaning", log.correct(1, 0, DITTO), 0);
        same("is recorded", log.count(10), 3);
        same("an act that answers 0", log.set(1, 1), 0);
        same("is recorded", log.count(10), 4);
        log = Logs.filled(3, 0);
        same("one that returns NONE", log.set(1, 0), NONE);
        same("one that returns NONE", log.correct(0, 0, 0), NONE);
        same("one that returns NONE", log.claim(0, NONE), NONE);
        same("one that returns NONE", log.restore(), NONE);
        same("one that returns an error", log.addRow(8, 0, 0, 0), BAD_VALUE);
        same("one that returns an error", log.addRows(), -100);
        same("one that returns an error", log.takeBack(0, 0), NOT_POSSIBLE);
        same("are not recorded", log.count(10), 3);
    }

    private void noActs() {
        DittoLog log = Logs.filled(2, 0);
        log.type('x');
        log.clearText();
        log.keep();
        log.wouldChange(0, 0, 1);
        log.cell(0, 0, 0);
        log.entry(0, 0, 0);
        log.isWritten(0);
        log.column(0, 5);
        log.watch(0, 2);
        log.run(0, 1);
        log.north(0, 1);
        log.east(0, 1);
        log.squareBits(0, 1);
        log.count(6);
        same("calls that are no acts", log.count(10), 2);
        same("an undo records nothing", log.undo(), 1);
        same("one state is left", log.count(10), 1);
    }

    private void snapshot() {
        says("There is one snapshot, empty at first.");
        DittoLog log = Logs.filled(2, 0);
        same("empty", log.restore(), NONE);
        same("of two rows", log.keep(), 2);
        log.addRow(0, 0, 0, 0);
        same("of three rows", log.keep(), 3);
        same("the one of three", log.restore(), 3);
        log.removeRow();
        log.removeRow();
        same("the one of three again", log.restore(), 3);
        same("another object has none", new DittoLog().restore(), NONE);
    }

    private void statesHaveNoText() {
        says("A state is everything but the text, the history and the snapshot.");
        DittoLog log = new DittoLog();
        Logs.typeText(log, "1,2,3,4");
        log.addRows();
        log.keep();
        log.clearText();
        log.type('x');
        log.undo();
        same("undo leaves the text", log.count(11), 1);
        log.restore();
        same("restore leaves the text", log.count(11), 1);
        Logs.typeText(log, "1,2,3,4;5,6,7,8");
        log.undo();
        same("the text as it is now", log.addRows(), 2);
    }

    private void statesHaveNoHistory() {
        DittoLog log = Logs.filled(2, 0);
        log.keep();
        log.addRow(0, 0, 0, 0);
        log.restore();
        same("restore leaves the history, and adds to it", log.count(10), 4);
        log.undo();
        log.undo();
        same("undo leaves the states ahead of it", log.count(10), 2);
        log.undo();
        log.undo();
        same("without rows", log.count(0), 0);
        same("undo leaves the snapshot", log.restore(), 2);
        log.claim(23, 7);
        log.set(0, 4);
        log.set(1, 1);
        log.set(2, 2);
        log.keep();
        log.restore();
        for (int undos = 0; undos < 4; undos++) {
            log.undo();
        }
        same("all of a state: the pages", log.count(7), 12);
        same("whether dittos stop", log.count(8), 0);
        same("the watches", log.count(9), 4);
        log.restore();
        same("all of the snapshot: the sums", log.claim(23, NONE), 10007);
        same("the pages", log.count(7), 4);
        same("whether dittos stop", log.count(8), 1);
        same("the watches", log.count(9), 2);
    }
}
