import java.util.ArrayList;
import java.util.List;

/**
 * Every call, with every argument at an edge, in objects of every kind: it answers what the model
 * answers, all is as in the model behind it, and if it throws, all is as if it had not been called.
 */
public final class EveryCallTest {
    private static final int LEAST = Integer.MIN_VALUE;
    private static final int MOST = Integer.MAX_VALUE;
    private static final String TABLES = "table 2; row 0 1 10 0; row 0 2 20 0; row 0 3 10 0;"
            + "table 3; row 1 1 5 7; row 1 1 6 8; row 1 2 5 9; row 1 4 5 7; table 1; row 2 5 0 0;"
            + "row 2 6 0 0; ";
    private static final String JOIN = TABLES + "query SELECT 0.0 1.2 FROM T0 T1 T2"
            + " WHERE 0.0 IS 1.0 AND 1.1 IS 5 AND 2.0 IS 1.1; read; ";
    private static final String TWELVE = TABLES + "query SELECT 0.0 FROM T1 T0 WHERE 0.0 IS 0.1"
            + " AND 0.1 IS 0.2 AND 0.2 IS 1.0 AND 0.0 IS 1 AND 0.0 IS 2 AND 0.0 IS 3; read; rewrite 1; ";
    private static final String FORTY = TABLES + "query SELECT 0.0 SUM 0.1 SUM 0.0 SUM 0.1 FROM T0"
            + " WHERE 0.0 ISNOT 900 AND 0.0 ISNOT 901 AND 0.0 ISNOT 902 AND 0.0 ISNOT 903"
            + " AND 0.0 ISNOT 904 AND 0.0 ISNOT 905 GROUP 0.0 ORDER 3 LIMIT 2; read; ";

    private static final String[] KINDS = {
        "",
        "table 1; table 2; table 3; row 1 -999 999 0",
        TABLES + "table 1; table 2",
        full() + "query SELECT 0.0 FROM T0; read; open; next",
        TABLES + "query SELECT 0.0 FROM T0",
        junk(40),
        TABLES + "query SELECT 0.0 FROM T0 T3; read",
        TABLES + "query SELECT 0.0 0.1 FROM T0; read",
        TABLES + "query SELECT 0.0 0.1 FROM T0; read; open",
        TABLES + "query SELECT 0.0 0.1 FROM T0 WHERE 0.0 ISNOT 2; read; open; next",
        TABLES + "query SELECT 0.0 FROM T2; read; open; next; next; next",
        TABLES + "query SELECT 0.0 FROM T0 WHERE 0.0 IS 9; read; open; next",
        TABLES + "query SELECT 0.1 COUNT SUM 0.0 FROM T0 GROUP 0.1 ORDER 1; read; open; next",
        TABLES + "query SELECT 0.0 FROM T0 T1 LIMIT 2; read; open; next; next",
        TABLES + "query SELECT 0.0 FROM T0 LIMIT 0; read; open; next",
        TABLES + "query SELECT COUNT 0.0 FROM T0 WHERE 0.0 LESS 0.0; read; rewrite 3; open; next",
        TABLES + "query SELECT 0.0 FROM T0 T1 WHERE 0.0 IS 1 AND 0.0 IS 2; read; rewrite 3",
        TWELVE,
        JOIN + "rewrite 2; swap 0 2; open; next",
        JOIN + "best; open; next; next",
        FORTY + "open; next",
        "table 1; table 1; query SELECT 0.0 1.0 FROM T0 T1 WHERE 0.0 IS 1.0; read; open; next",
        TABLES + "query SELECT 0.0 FROM T0; read; open; next; row 2 1 1 1",
    };

    private static final String AFTER = "digest; next; value 0; done 0; done 1; next; value 0; done 1;"
            + "faultAt; many 1; many 4; results; result 0 0; open; next; value 0; next; next; done 0;"
            + "digest; rewrite 2; order 0; read; faultAt; condition 0 3; guess 0; result 1 0; open; next;"
            + "token 1000; read; faultAt; table 1; row 0 1 1 1; clear; token 0; read; faultAt; digest";

    /** Calls that change something, or could. */
    private static final String[] CHANGES = {"table 2", "row 0 7 7 7", "row 1 1 5 7", "drop 0 0",
        "drop 1 1", "token 6", "token 1001", "clear", "read", "rewrite 0", "rewrite 1", "rewrite 2",
        "rewrite 3", "swap 0 1", "swap 0 0", "swap 1 2", "best", "open", "next", "results", "share",
        "meetingsWithout 0"};

    private static final Checks CHECKS = new Checks("EveryCallTest");

    private EveryCallTest() {
    }

    private static String full() {
        StringBuilder text = new StringBuilder("table 1; table 3; ");
        for (int i = 0; i < 14; i++) {
            text.append("row 0 ").append(i).append(" 0 0; ");
        }
        return text.toString();
    }

    private static String junk(int tokens) {
        StringBuilder text = new StringBuilder("table 1; ");
        for (int i = 0; i < tokens; i++) {
            text.append("token ").append(i % 3 == 0 ? 100 : i % 12).append("; ");
        }
        return text.toString();
    }

    /** The call with each of these as its next argument. */
    private static List<String> with(List<String> begun, int... numbers) {
        List<String> calls = new ArrayList<>();
        for (String call : begun) {
            for (int number : numbers) {
                calls.add(call + " " + number);
            }
        }
        return calls;
    }

    private static List<String> with(String name, int... numbers) {
        return with(List.of(name), numbers);
    }

    private static List<String> everyCall() {
        List<String> all = new ArrayList<>(List.of("clear", "read", "faultAt", "best", "cost", "isEmpty",
                "open", "next", "results", "share", "digest"));
        int[] places = {LEAST, -1, 0, 1, 2, 3, 4, 5, 14, MOST};
        int[] few = {LEAST, -1, 0, 1, 2, 3, 4, MOST};
        all.addAll(with("table", LEAST, -1, 0, 1, 2, 3, 4, MOST));
        String[] values = {"0 0 0", "-999 999 -999", "1000 0 0", "-1000 0 0", "0 1000 0", "0 -1000 0",
            "0 0 1000", "0 0 -1000", MOST + " " + LEAST + " 0"};
        for (String table : with("row", LEAST, -1, 0, 1, 2, 3, 4, 5, MOST)) {
            for (String three : values) {
                all.add(table + " " + three);
            }
        }
        all.addAll(with(with("drop", places), places));
        all.addAll(with(with("variety", places), few));
        all.addAll(with("token", LEAST, -1, 0, 1, 2, 3, 4, 5, 6, 7, 8, 9, 10, 11, 12, 19, 20, 22, 24, 25,
                99, 100, 101, 199, 200, 999, 1000, 1001, 1999, 2000, MOST));
        all.addAll(with("many", LEAST, -1, 0, 1, 2, 3, 4, 5, MOST));
        all.addAll(with(with("condition", LEAST, -1, 0, 1, 2, 3, 5, 6, 11, 12, MOST),
                LEAST, -1, 0, 1, 2, 3, 4, 5, 6, MOST));
        all.addAll(with("rewrite", few));
        all.addAll(with(with("swap", few), few));
        all.addAll(with("order", few));
        all.addAll(with("guess", few));
        all.addAll(with("value", few));
        all.addAll(with("done", few));
        all.addAll(with(with("result", places), few));
        all.addAll(with("wouldDo", few));
        all.addAll(with("meetingsWithout", LEAST, -1, 0, 1, 2, 3, 5, 6, 11, 12, MOST));
        return all;
    }

    private static void asTheModel(String kind, String calls, String untouched) {
        OrchardQuery q = new OrchardQuery();
        Model model = new Model();
        Script.run(q, kind);
        Script.run(model, kind);
        String got = Script.run(q, calls);
        CHECKS.is(calls + " behind " + kind, got, Script.run(model, calls));
        String after = Script.run(q, AFTER);
        CHECKS.is("all behind " + calls + " behind " + kind, after, Script.run(model, AFTER));
        if (untouched != null && got.contains("throws")) {
            CHECKS.is("all behind " + calls + ", that threw, behind " + kind, after, untouched);
        }
    }

    private static void changesNothing() {
        List<String> calls = everyCall();
        for (String kind : KINDS) {
            OrchardQuery untouched = new OrchardQuery();
            Script.run(untouched, kind);
            String after = Script.run(untouched, AFTER);
            for (String call : calls) {
                asTheModel(kind, call, after);
            }
        }
    }

    private static void twoOfThem() {
        for (String kind : KINDS) {
            for (String one : CHANGES) {
                for (String other : CHANGES) {
                    asTheModel(kind, one + "; " + other, null);
                }
            }
        }
    }

    public static void main(String[] args) {
        CHECKS.under("Terms");
        CHECKS.sentence("A method that throws an exception changes nothing.",
                EveryCallTest::changesNothing);
        CHECKS.under("Not promised");
        CHECKS.sentence("Nothing is promised beyond the answers and state changes described above,"
                + " and nothing about an object after its 512th call.", EveryCallTest::twoOfThem);
        CHECKS.end();
    }
}
