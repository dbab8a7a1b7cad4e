/** Logbooks for the tests to begin with. */
final class Logs {
    private Logs() {
    }

    static void typeText(DittoLog log, String text) {
        log.clearText();
        for (int i = 0; i < text.length(); i++) {
            log.type(text.charAt(i));
        }
    }

    /** Rows as a text writes them; the text is empty again at the end. */
    static DittoLog withRows(String... rows) {
        DittoLog log = new DittoLog();
        for (String row : rows) {
            typeText(log, row);
            if (log.addRows() != 1) {
                throw new IllegalArgumentException("a test begins with a row that is none: " + row);
            }
        }
        log.clearText();
        return log;
    }

    /** Rows in which each cell has the same entry. */
    static DittoLog filled(int rows, int entry) {
        DittoLog log = new DittoLog();
        for (int row = 0; row < rows; row++) {
            log.addRow(entry, entry, entry, entry);
        }
        return log;
    }

    /** A row of one number, and dittos below it. */
    static DittoLog withDittos(int rows, int number) {
        DittoLog log = new DittoLog();
        for (int row = 0; row < rows; row++) {
            int entry = row == 0 ? number : DittoLog.DITTO;
            log.addRow(entry, entry, entry, entry);
        }
        return log;
    }

    /** A row whose cells are all blank but for one. */
    static int addRowWith(DittoLog log, int column, int entry) {
        int[] entries = {DittoLog.NONE, DittoLog.NONE, DittoLog.NONE, DittoLog.NONE};
        entries[column] = entry;
        return log.addRow(entries[0], entries[1], entries[2], entries[3]);
    }
}
