/** The sentences behind the Terms and those ahead of the groups of calls: what is refused, and when. */
public final class RefusedEdgesTest {
    private static final String TABLES = "table 2; row 0 1 10 0; row 0 2 20 0; table 1; row 1 5 0 0; ";
    private static final String GOOD = "query SELECT 0.0 0.1 FROM T0 WHERE 0.0 ISNOT 9; read; ";

    /** Ways to an object whose QUERY is not READ. */
    private static final String[] UNREAD = {
        "", TABLES, "read", TABLES + "read", "token 0; token 100; token 1; token 20",
        TABLES + "query SELECT 0.0 FROM T0",
        TABLES + "query COUNT; read",
        TABLES + "query SELECT FROM; read",
        TABLES + "query SELECT 0.0 T0; read",
        TABLES + "query SELECT 0.0 FROM T2; read",
        TABLES + "query SELECT 0.0 FROM T0 WHERE 1; read",
        TABLES + "query SELECT 0.0 FROM T0 WHERE 0.0 1; read",
        TABLES + "query SELECT 0.0 FROM T0 WHERE 0.0 IS T0; read",
        TABLES + "query SELECT 0.0 FROM T0 LIMIT 0.0; read",
        TABLES + "query SELECT 0.0 FROM T0 T1 AND; read",
        TABLES + "query SELECT 0.0 FROM T0 WHERE 0.0 IS 1 GROUP 0.2; read",
        TABLES + "query SELECT 0.0 FROM T0 WHERE 0.0 IS 1 ORDER 1; read",
        TABLES + GOOD + "token 6",
        TABLES + GOOD + "clear",
        TABLES + GOOD + "token 6; read",
        TABLES + GOOD + "open; next; token 6; token 1001",
        TABLES + GOOD + "open; next; clear; query SELECT 0.0 FROM T0",
        TABLES + GOOD + "open; next; token 0; read; read",
        TABLES + "query SELECT 0.0 FROM T2; read; table 1; row 2 1 1 1",
        "query SELECT 0.0 FROM T0; read; " + TABLES,
    };

    /** All calls that are refused then, with arguments that are good, bad, and worse. */
    private static final String[] REFUSED = {
        "condition 0 0", "condition -1 0", "condition 0 6", "condition 99 -1", "rewrite 0", "rewrite 3",
        "rewrite -1", "rewrite 4", "swap 0 0", "swap -1 0", "swap 0 3", "best", "order 0", "order -1",
        "order 3", "guess 0", "guess -1", "guess 3", "cost", "isEmpty", "open", "next", "value 0",
        "value -1", "value 4", "done 0", "done 2", "done -1", "done 3", "results", "result 0 0",
        "result -1 0", "result 0 9", "wouldDo 0", "wouldDo 1", "wouldDo -1", "wouldDo 2",
        "meetingsWithout 0", "meetingsWithout -1", "meetingsWithout 12", "share",
        "condition -2147483648 2147483647", "rewrite 2147483647", "swap 2147483647 -2147483648",
        "value 2147483647", "done -2147483648", "result 2147483647 -2147483648", "wouldDo 2147483647",
    };

    /** Pairs of a call that is refused for two reasons, and the exception that is named first. */
    private static final String[][] FIRST = {
        {"table 1; table 1; table 1; table 1; table 1", "table 0", "IllegalArgumentException"},
        {"table 1; table 1; table 1; table 1; table 1", "table 4", "IllegalArgumentException"},
        {TABLES, "row 2 1000 0 0", "IndexOutOfBoundsException"},
        {TABLES, "row -1 -1000 0 0", "IndexOutOfBoundsException"},
        {TABLES, "drop 2 -1", "IndexOutOfBoundsException"},
        {TABLES, "variety 2 9", "IndexOutOfBoundsException"},
        {TABLES + GOOD, "condition 1 6", "IndexOutOfBoundsException"},
        {TABLES + GOOD, "condition -1 -1", "IndexOutOfBoundsException"},
        {TABLES + GOOD, "condition 0 -1", "IllegalArgumentException"},
        {TABLES + GOOD, "swap 1 -1", "IndexOutOfBoundsException"},
        {TABLES + GOOD, "value 2", "IllegalStateException"},
        {TABLES + GOOD + "open", "value -1", "IllegalStateException"},
        {TABLES + GOOD + "open; next", "value 2", "IndexOutOfBoundsException"},
        {TABLES + GOOD + "open; next; best", "value 2", "IllegalStateException"},
        {TABLES + GOOD + "open; next; next; next", "value 2", "IndexOutOfBoundsException"},
        {TABLES + GOOD, "result 2 2", "IndexOutOfBoundsException"},
    };
    private static final Checks CHECKS = new Checks("RefusedEdgesTest");

    private static OrchardQuery made(String script) {
        OrchardQuery q = new OrchardQuery();
        Script.run(q, script);
        return q;
    }

    private static void isRefused() {
        for (String way : UNREAD) {
            OrchardQuery q = made(way);
            long before = q.digest();
            for (String call : REFUSED) {
                CHECKS.is(call + " behind " + way, Script.call(q, call), "throws.IllegalStateException");
            }
            CHECKS.is("digest() behind all that", q.digest(), before);
        }
    }

    private static void whatIsNotRefused() {
        for (String way : UNREAD) {
            String[] calls = {"digest", "faultAt", "many 0", "many 4", "table 3", "row 0 1 1 1",
                "variety 0 0", "drop 0 0", "token 0", "read", "clear", "read", "clear"};
            OrchardQuery q = made("table 1; " + way);
            for (String call : calls) {
                CHECKS.is(call + " behind " + way, Script.call(q, call).startsWith("throws"), false);
            }
        }
    }

    private static void itIsReadAgain() {
        for (String way : UNREAD) {
            OrchardQuery q = made(way);
            q.clear();
            int table = q.table(1);
            q.row(table, 77, 0, 0);
            for (int token : new int[] {0, 100, 1, 20 + table}) {
                q.token(token);
            }
            CHECKS.is("read() behind " + way, q.read(), 0);
            CHECKS.is("results() behind that", q.results(), 1);
            CHECKS.is("result() behind that", q.result(0, 0), 77);
        }
    }

    private static void theOneThatIsNamedFirst() {
        for (String[] due : FIRST) {
            OrchardQuery q = made(due[0]);
            long before = q.digest();
            CHECKS.is(due[1] + " behind " + due[0], Script.call(q, due[1]), "throws." + due[2]);
            CHECKS.is("digest() behind that", q.digest(), before);
        }
    }

    public static void main(String[] args) {
        CHECKS.under("Terms");
        CHECKS.sentence("all that follows, what would be, too,", RefusedEdgesTest::isRefused);
        CHECKS.sentence("but not digest(),", RefusedEdgesTest::whatIsNotRefused);
        CHECKS.sentence("is refused (IllegalStateException, ahead of all else), if the QUERY is not READ.",
                RefusedEdgesTest::isRefused);
        CHECKS.sentence("If several exceptions apply, the one that is named first is thrown.",
                RefusedEdgesTest::theOneThatIsNamedFirst);
        CHECKS.under("Promise 8: read");
        CHECKS.sentence("READS the QUERY;", RefusedEdgesTest::itIsReadAgain);
        CHECKS.under("Promise 11: condition", "Promise 12: rewrite", "Promise 13: swap",
                "Promise 14: best", "Promise 15: order", "Promise 16: guess", "Promise 17: cost",
                "Promise 18: isEmpty", "Promise 19: open", "Promise 20: next", "Promise 21: value",
                "Promise 22: done", "Promise 23: results", "Promise 24: result", "Promise 25: wouldDo",
                "Promise 26: meetingsWithout", "Promise 27: share");
        CHECKS.sentence("Throws `IllegalStateException` if it is refused", RefusedEdgesTest::isRefused);
        CHECKS.end();
    }
}
