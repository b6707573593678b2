/** Makes objects for tests. */
final class Make {
    private Make() {
    }

    /** A TABLE with these ROWS, each as long as the first one (which is there, at least). */
    static int table(OrchardQuery q, int[]... rows) {
        int number = q.table(rows[0].length);
        for (int[] row : rows) {
            q.row(number, row[0], row.length > 1 ? row[1] : 0, row.length > 2 ? row[2] : 0);
        }
        return number;
    }

    /** Writes a query anew, without reading it. */
    static void write(OrchardQuery q, int... tokens) {
        q.clear();
        for (int token : tokens) {
            q.token(token);
        }
    }

    /** Writes and reads a query; answers the FAULT. */
    static int read(OrchardQuery q, int... tokens) {
        write(q, tokens);
        return q.read();
    }

    /** TABLE 0 with 3 ROWS of 2 COLUMNS, TABLE 1 with 4 of 3, TABLE 2 with 2 of 1. */
    static OrchardQuery three() {
        OrchardQuery q = new OrchardQuery();
        table(q, new int[] {1, 10}, new int[] {2, 20}, new int[] {3, 10});
        table(q, new int[] {1, 5, 7}, new int[] {1, 6, 8}, new int[] {2, 5, 9}, new int[] {4, 5, 7});
        table(q, new int[] {5}, new int[] {6});
        return q;
    }

    static int[] all(int[]... parts) {
        int length = 0;
        for (int[] part : parts) {
            length += part.length;
        }
        int[] whole = new int[length];
        int at = 0;
        for (int[] part : parts) {
            System.arraycopy(part, 0, whole, at, part.length);
            at += part.length;
        }
        return whole;
    }
}
