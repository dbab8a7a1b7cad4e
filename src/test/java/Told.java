import java.util.ArrayList;
import java.util.List;

/**
 * All that an object tells, now and after the calls that bring back what it keeps. Lots of questions go to objects
 * that are made alike, as each of them serves for 512 calls.
 */
final class Told {
    private static final int LOT = 350;
    private static final int NO_SUM = DittoLog.NONE;

    interface Call {
        long on(DittoLog log);
    }

    private static final List<Call> QUESTIONS = questions();

    private final List<Call> made;
    private final List<Long> told = new ArrayList<>();

    private Told(List<Call> made) {
        this.made = made;
    }

    static DittoLog object(List<Call> made) {
        DittoLog log = new DittoLog();
        for (Call call : made) {
            call.on(log);
        }
        return log;
    }

    static List<Long> after(List<Call> made) {
        Told all = new Told(made);
        List<Call> undone = new ArrayList<>();
        for (int undos = 0; undos <= 5; undos++) {
            all.ask(undone, QUESTIONS);
            all.ask(undone, ownSums());
            undone.add(DittoLog::undo);
        }
        all.ask(List.of(DittoLog::restore), QUESTIONS);
        all.ask(List.of(DittoLog::restore), ownSums());
        all.ask(List.of(DittoLog::addRows), QUESTIONS);
        all.ask(List.of(DittoLog::clearText), QUESTIONS);
        return all.told;
    }

    private void ask(List<Call> first, List<Call> questions) {
        for (int start = 0; start < questions.size(); start += LOT) {
            DittoLog log = object(made);
            for (Call call : first) {
                told.add(call.on(log));
            }
            for (Call question : questions.subList(start, Math.min(start + LOT, questions.size()))) {
                told.add(question.on(log));
            }
        }
    }

    private static List<Call> questions() {
        List<Call> all = new ArrayList<>();
        for (int i = 0; i < 12; i++) {
            int what = i;
            all.add(log -> log.count(what));
        }
        for (int i = 0; i < 48 * 4; i++) {
            questionsOfCell(all, i / 4, i % 4);
        }
        for (int i = 0; i < 4 * 7; i++) {
            int cell = i;
            all.add(log -> log.column(cell / 7, cell % 7));
        }
        for (int i = 0; i < 24 * 7; i++) {
            int cell = i;
            all.add(log -> log.watch(cell / 7, cell % 7));
        }
        for (int i = 0; i < 48; i++) {
            questionsOfRow(all, i);
        }
        return all;
    }

    private static void questionsOfCell(List<Call> all, int row, int column) {
        for (int i = 0; i < 6; i++) {
            int what = i;
            all.add(log -> log.cell(row, column, what));
        }
        for (int i = 0; i < 4; i++) {
            int rank = i;
            all.add(log -> log.entry(row, column, rank));
        }
    }

    private static void questionsOfRow(List<Call> all, int row) {
        all.add(log -> log.isWritten(row));
        all.add(log -> log.run(0, row));
        all.add(log -> Double.doubleToLongBits(log.north(0, row)));
        all.add(log -> Double.doubleToLongBits(log.east(0, row)));
        all.add(log -> log.squareBits(0, row));
    }

    /** Also those of watches without rows, which only a claim tells. */
    private static List<Call> ownSums() {
        List<Call> all = new ArrayList<>();
        for (int i = 0; i < 24; i++) {
            int watch = i;
            all.add(log -> log.claim(watch, NO_SUM));
        }
        return all;
    }
}
