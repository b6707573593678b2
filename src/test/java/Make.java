import java.util.Arrays;
import java.util.List;

/** Makes objects for tests. */
final class Make {
    private static final List<String> WORDS = Arrays.asList("SELECT", "FROM", "WHERE", "AND", "GROUP",
            "ORDER", "LIMIT", "COUNT", "SUM", "IS", "ISNOT", "LESS");

    private Make() {
    }

    /** A TABLE with these ROWS, each as long as the first one (which is there, at least). */
    static int table(OrchardQuery q, int[]... rows) {
        int number = q.table(rows[0].length);
        for (int[] row : rows) {
            q.row(number, row[0], row.length > 1 ? row[1] : 0, row.length > 2 ? row[2] : 0);
        }
        return number;
    }

    /** TABLES with so many COLUMNS each, without ROWS. */
    static OrchardQuery tables(int... columns) {
        OrchardQuery q = new OrchardQuery();
        for (int c : columns) {
            q.table(c);
        }
        return q;
    }

    /** TABLES of three COLUMNS with so many ROWS each: the ROW i has i, 0 and -i. */
    static OrchardQuery sized(int... rows) {
        OrchardQuery q = new OrchardQuery();
        for (int t = 0; t < rows.length; t++) {
            q.table(3);
            grow(q, t, rows[t]);
        }
        return q;
    }

    /** Adds ROWS to a TABLE that has none: the ROW i has i, 0 and -i. */
    static void grow(OrchardQuery q, int table, int rows) {
        for (int i = 0; i < rows; i++) {
            q.row(table, i, 0, -i);
        }
    }

    /**
     * The TOKENS of a text: words as the document names them (ISNOT is one), T0 for a TABLE, 1.2 for
     * the COLUMN 2 of the SEAT 1, 7 for a NUMBER.
     */
    static int[] tokens(String text) {
        if (text.isEmpty()) {
            return new int[0];
        }
        String[] words = text.split(" ");
        int[] tokens = new int[words.length];
        for (int i = 0; i < words.length; i++) {
            tokens[i] = token(words[i]);
        }
        return tokens;
    }

    private static int token(String word) {
        if (WORDS.contains(word)) {
            return WORDS.indexOf(word);
        }
        if (word.startsWith("T")) {
            return 20 + Integer.parseInt(word.substring(1));
        }
        if (word.indexOf('.') == 1 && word.length() == 3) {
            return 100 + 10 * (word.charAt(0) - '0') + (word.charAt(2) - '0');
        }
        return 1000 + Integer.parseInt(word);
    }

    /** Writes a query anew, without reading it. */
    static void write(OrchardQuery q, int... tokens) {
        q.clear();
        for (int token : tokens) {
            q.token(token);
        }
    }

    static void write(OrchardQuery q, String text) {
        write(q, tokens(text));
    }

    /** Writes and reads a query; answers the FAULT. */
    static int read(OrchardQuery q, int... tokens) {
        write(q, tokens);
        return q.read();
    }

    static int read(OrchardQuery q, String text) {
        return read(q, tokens(text));
    }

    /** All RESULTS as a text, the ITEMS divided by blanks, the RESULTS by commas. */
    static String results(OrchardQuery q) {
        int items = q.many(2);
        StringBuilder text = new StringBuilder();
        for (int i = 0; i < q.results(); i++) {
            text.append(i > 0 ? ", " : "");
            for (int item = 0; item < items; item++) {
                text.append(item > 0 ? " " : "").append(q.result(i, item));
            }
        }
        return text.toString();
    }

    /** TABLE 0 with 3 ROWS of 2 COLUMNS, TABLE 1 with 4 of 3, TABLE 2 with 2 of 1. */
    static OrchardQuery three() {
        OrchardQuery q = new OrchardQuery();
        table(q, new int[] {1, 10}, new int[] {2, 20}, new int[] {3, 10});
        table(q, new int[] {1, 5, 7}, new int[] {1, 6, 8}, new int[] {2, 5, 9}, new int[] {4, 5, 7});
        table(q, new int[] {5}, new int[] {6});
        return q;
    }

    static int[] all(int[]... parts) {
        int length = 0;
        for (int[] part : parts) {
            length += part.length;
        }
        int[] whole = new int[length];
        int at = 0;
        for (int[] part : parts) {
            System.arraycopy(part, 0, whole, at, part.length);
            at += part.length;
        }
        return whole;
    }
}
