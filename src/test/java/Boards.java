/** Boards drawn as text: . empty, g guard, k king, r raider, c captain, t throne, x corner, K king on the throne. */
final class Boards {
    private static final String SIGNS = ".gkrctxK";

    private Boards() { }

    static KingTable told(String... rows) {
        KingTable table = new KingTable();
        tell(table, rows);
        return table;
    }

    /** Whether the table took the board and all its lines. */
    static boolean tell(KingTable table, String... rows) {
        boolean took = table.board(rows.length, rows[0].length());
        for (int r = 0; r < rows.length; r++) {
            took &= table.line(r, rows[r].length(), signs(rows[r]));
        }
        return took;
    }

    static int signs(String row) {
        int v = 0;
        for (int c = 0; c < row.length(); c++) {
            v |= SIGNS.indexOf(row.charAt(c)) << (3 * c);
        }
        return v;
    }
}
