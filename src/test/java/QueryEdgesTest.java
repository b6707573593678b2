/** The edges of the QUERY and of promises 6 to 10; its FAULTS have a test of their own. */
public final class QueryEdgesTest {
    private static final int LEAST = Integer.MIN_VALUE;
    private static final int MOST = Integer.MAX_VALUE;
    /** 40 TOKENS, each piece as long as can be but for TABLES and one SUM. */
    private static final String FORTY = "SELECT 0.0 SUM 0.1 SUM 0.0 SUM 0.1 FROM T0"
            + " WHERE 0.0 ISNOT 900 AND 0.0 ISNOT 901 AND 0.0 ISNOT 902 AND 0.0 ISNOT 903"
            + " AND 0.0 ISNOT 904 AND 0.0 ISNOT 905 GROUP 0.0 ORDER 3 LIMIT 2";
    private static final Checks CHECKS = new Checks("QueryEdgesTest");

    private static OrchardQuery filled(int tokens) {
        OrchardQuery q = new OrchardQuery();
        for (int i = 0; i < tokens; i++) {
            q.token(0);
        }
        return q;
    }

    // ---- Promise 6

    private static boolean isToken(int token) {
        return (token >= 0 && token <= 11) || (token >= 20 && token <= 24)
                || (token >= 100 && token <= 199) || (token >= 1000 && token <= 1999);
    }

    /** Every number that could be near a TOKEN is tried, on objects that are used for a few each. */
    private static void everyToken() {
        OrchardQuery q = new OrchardQuery();
        for (int token = -2100; token <= 4100; token++) {
            if (token % 100 == 0) {
                q = new OrchardQuery();
            }
            if (q.many(1) == 40) {
                q.clear();
            }
            int before = q.many(1);
            int got = -1;
            try {
                got = q.token(token);
            } catch (IllegalArgumentException e) {
                got = 0;
            }
            CHECKS.is("token(" + token + ")", got, isToken(token) ? before + 1 : 0);
            CHECKS.is("tokens behind token(" + token + ")", q.many(1), before + (isToken(token) ? 1 : 0));
        }
    }

    private static void tokensBelowAndAbove() {
        OrchardQuery q = Make.three();
        Make.read(q, "SELECT 0.0 FROM T0");
        for (int none : new int[] {LEAST, -1, 12, 19, 25, 99, 200, 999, 2000, 1 << 16, MOST}) {
            CHECKS.badArgument(q, "token(" + none + ")", () -> q.token(none));
            CHECKS.is("tokens", q.many(1), 4);
        }
        CHECKS.is("it is READ still", q.results(), 3);
    }

    private static void aTableThatIsNotThereIsAToken() {
        OrchardQuery q = new OrchardQuery();
        for (int t = 20; t <= 24; t++) {
            CHECKS.is("token(" + t + ")", q.token(t), t - 19);
        }
    }

    /** TABLES 0 to 4 with one ROW each: 10 * t, 10 * t + 1 and 10 * t + 2. */
    private static OrchardQuery five() {
        OrchardQuery q = Make.tables(3, 3, 3, 3, 3);
        for (int t = 0; t < 5; t++) {
            q.row(t, 10 * t, 10 * t + 1, 10 * t + 2);
        }
        return q;
    }

    /** Every word has its place here, by its number: if two were changed round, there would be a fault. */
    private static void whatEachWordIs() {
        OrchardQuery q = Make.three();
        CHECKS.is("read()", Make.read(q, 0, 101, 7, 8, 100, 1, 20, 2, 100, 9, 1003, 4, 101, 5, 1001,
                6, 1001), 0);
        CHECKS.is("IS", Make.results(q), "10 1 3");
        CHECKS.is("read()", Make.read(q, 0, 101, 7, 8, 100, 1, 20, 2, 100, 10, 1003, 3, 100, 11, 1003,
                4, 101), 0);
        CHECKS.is("IS NOT and LESS, GROUP", Make.results(q), "10 1 1, 20 1 2");
        CHECKS.is("read()", Make.read(q, 0, 100, 1, 20, 2, 100, 10, 1002), 0);
        CHECKS.is("IS NOT", Make.results(q), "1, 3");
        CHECKS.is("read()", Make.read(q, 0, 100, 1, 20, 2, 100, 11, 1002), 0);
        CHECKS.is("LESS", Make.results(q), "1");
        CHECKS.is("read()", Make.read(q, 0, 101, 100, 1, 20, 5, 1000), 0);
        CHECKS.is("ORDER", Make.results(q), "10 1, 10 3, 20 2");
        CHECKS.is("read()", Make.read(q, 0, 101, 1, 20, 6, 1002), 0);
        CHECKS.is("LIMIT", Make.results(q), "10, 20");
        CHECKS.is("read()", Make.read(q, 0, 7, 1, 20), 0);
        CHECKS.is("COUNT", Make.results(q), "3");
        CHECKS.is("read()", Make.read(q, 0, 8, 101, 1, 20), 0);
        CHECKS.is("SUM", Make.results(q), "40");
    }

    private static void whichTable() {
        OrchardQuery q = five();
        for (int t = 0; t < 5; t++) {
            CHECKS.is("read()", Make.read(q, 0, 100, 101, 102, 1, 20 + t), 0);
            int ten = 10 * t;
            CHECKS.is("of " + (20 + t), Make.results(q), ten + " " + (ten + 1) + " " + (ten + 2));
        }
        CHECKS.is("read()", Make.read(q, 0, 100, 110, 120, 1, 24, 20, 23), 0);
        CHECKS.is("of three of them", Make.results(q), "40 0 30");
    }

    private static void whichColumn() {
        OrchardQuery q = five();
        for (int seat = 0; seat < 3; seat++) {
            for (int column = 0; column < 3; column++) {
                int token = 100 + 10 * seat + column;
                CHECKS.is("read()", Make.read(q, 0, token, 1, 21, 22, 23), 0);
                CHECKS.is("of " + token, q.result(0, 0), 10 * (seat + 1) + column);
            }
        }
        for (int seat = 0; seat < 10; seat++) {
            OrchardQuery all = five();
            for (int column = 0; column < 10; column++) {
                int token = 100 + 10 * seat + column;
                boolean there = seat < 3 && column < 3;
                CHECKS.is("read() of " + token, Make.read(all, 0, token, 1, 20, 21, 22), there ? 0 : 10);
            }
        }
    }

    private static void whichNumber() {
        int[] numbers = {0, 1, 9, 10, 499, 500, 998, 999};
        OrchardQuery q = Make.tables(1);
        for (int v : numbers) {
            q.row(0, v, 0, 0);
        }
        q.row(0, -1, 0, 0);
        for (int i = 0; i < numbers.length; i++) {
            int token = 1000 + numbers[i];
            CHECKS.is("read()", Make.read(q, 0, 100, 1, 20, 2, 100, 9, token), 0);
            CHECKS.is("IS " + token, Make.results(q), "" + numbers[i]);
            CHECKS.is("read()", Make.read(q, 0, 7, 1, 20, 2, 100, 11, token), 0);
            CHECKS.is("LESS " + token, Make.results(q), "" + (i + 1));
            CHECKS.is("read()", Make.read(q, 0, 100, 1, 20, 6, token), 0);
            CHECKS.is("LIMIT " + token, q.results(), Math.min(9, numbers[i]));
        }
        OrchardQuery other = Make.tables(2);
        int[][] rows = {{4, 3}, {2, 5}, {1, 6}};
        for (int[] row : rows) {
            other.row(0, row[0], row[1], 0);
        }
        String[] dues = {"1 6 6 1, 2 5 5 1, 4 3 3 1", "4 3 3 1, 2 5 5 1, 1 6 6 1",
            "4 3 3 1, 2 5 5 1, 1 6 6 1", "1 6 6 1, 2 5 5 1, 4 3 3 1"};
        for (int v = 0; v < 4; v++) {
            CHECKS.is("read()", Make.read(other, 0, 100, 101, 8, 101, 7, 1, 20, 4, 100, 5, 1000 + v), 0);
            CHECKS.is("ORDER " + (1000 + v), Make.results(other), dues[v]);
        }
    }

    private static void addedBehindTheOthers() {
        OrchardQuery q = Make.three();
        int[] tokens = Make.tokens("SELECT 0.1 FROM T0 WHERE 0.0 LESS 3 LIMIT 1");
        int[] faults = {2, 3, 4, 0, 5, 6, 7, 0, 8, 0};
        for (int i = 0; i < tokens.length; i++) {
            CHECKS.is("token()", q.token(tokens[i]), i + 1);
            CHECKS.is("read() of " + (i + 1), q.read(), faults[i]);
        }
        CHECKS.is("all of it", Make.results(q), "10");
    }

    private static void fortyTokens() {
        OrchardQuery q = new OrchardQuery();
        for (int n = 1; n <= 40; n++) {
            CHECKS.is("token " + n, q.token(1999), n);
        }
        CHECKS.is("many(1)", q.many(1), 40);
    }

    private static void a41stToken() {
        for (int token : new int[] {0, 11, 20, 24, 100, 199, 1000, 1999}) {
            OrchardQuery q = filled(40);
            CHECKS.badState(q, "a 41st token " + token, () -> q.token(token));
            CHECKS.is("tokens", q.many(1), 40);
            q.clear();
            CHECKS.is("the first behind clear()", q.token(token), 1);
        }
        OrchardQuery almost = filled(39);
        CHECKS.is("the 40th", almost.token(5), 40);
    }

    private static void a41stThatIsNone() {
        OrchardQuery q = filled(40);
        for (int none : new int[] {LEAST, -1, 12, 19, 25, 99, 200, 999, 2000, MOST}) {
            CHECKS.badArgument(q, "token(" + none + ")", () -> q.token(none));
        }
    }

    private static void refusedTokenLeavesItRead() {
        OrchardQuery q = Make.three();
        CHECKS.is("read() of 40", Make.read(q, FORTY), 0);
        CHECKS.is("tokens", q.many(1), 40);
        CHECKS.is("results", Make.results(q), "1 10 1 10, 3 10 3 10");
        q.open();
        q.next();
        CHECKS.badState(q, "a 41st", () -> q.token(0));
        CHECKS.badArgument(q, "one that is none", () -> q.token(12));
        CHECKS.is("it is READ still", q.many(2), 4);
        CHECKS.is("what is pulled is not over", q.next(), true);
        CHECKS.is("its value", q.value(0), 3);
        OrchardQuery faulty = filled(40);
        faulty.read();
        CHECKS.badState(faulty, "a 41st", () -> faulty.token(0));
        CHECKS.badArgument(faulty, "one that is none", () -> faulty.token(-1));
        CHECKS.is("the place of the fault stays", faulty.faultAt(), 1);
    }

    private static void notReadBehindToken() {
        OrchardQuery q = Make.three();
        Make.read(q, "SELECT 0.0 FROM T0");
        q.token(6);
        CHECKS.badState(q, "results() behind token()", q::results);
        for (int what = 2; what <= 4; what++) {
            CHECKS.is("many(" + what + ")", q.many(what), 0);
        }
        q.token(1001);
        CHECKS.badState(q, "results() before read()", q::results);
        CHECKS.is("read()", q.read(), 0);
        CHECKS.is("results()", q.results(), 1);
    }

    // ---- Promise 7

    private static void clearOfNothing() {
        OrchardQuery q = Make.three();
        CHECKS.is("clear() of a new object", q.clear(), 0);
        q.token(0);
        CHECKS.is("clear() of one", q.clear(), 1);
        CHECKS.is("clear() again", q.clear(), 0);
        CHECKS.is("tokens", q.many(1), 0);
        CHECKS.is("the tables stay", q.many(0), 3);
        CHECKS.is("the rows stay", q.variety(1, 2), 3);
    }

    private static void clearOfForty() {
        OrchardQuery q = filled(40);
        CHECKS.is("clear()", q.clear(), 40);
        CHECKS.is("tokens", q.many(1), 0);
        for (int n = 1; n <= 40; n++) {
            CHECKS.is("token " + n + " again", q.token(0), n);
        }
    }

    private static void notReadBehindClear() {
        OrchardQuery q = Make.three();
        Make.read(q, "SELECT 0.0 0.1 FROM T0 T1 WHERE 0.0 IS 1.0");
        q.clear();
        CHECKS.badState(q, "results() behind clear()", q::results);
        for (int what = 1; what <= 4; what++) {
            CHECKS.is("many(" + what + ")", q.many(what), 0);
        }
        CHECKS.is("read() of nothing", q.read(), 1);
        CHECKS.is("its place", q.faultAt(), 0);
    }

    // ---- Promise 8

    private static void withAFaultItIsNotRead() {
        OrchardQuery q = Make.three();
        String[] faulty = {"", "SELECT", "SELECT 0.0", "SELECT 0.0 FROM", "SELECT 0.0 FROM T0 WHERE",
            "SELECT 0.0 FROM T0 WHERE 0.0", "SELECT 0.0 FROM T0 WHERE 0.0 IS",
            "SELECT 0.0 FROM T0 LIMIT", "SELECT 0.0 FROM T0 SELECT", "SELECT 0.2 FROM T0",
            "SELECT 0.0 FROM T0 ORDER 1"};
        for (int fault = 1; fault <= 11; fault++) {
            CHECKS.is("read()", Make.read(q, faulty[fault - 1]), fault);
            CHECKS.badState(q, "cost() with the fault " + fault, q::cost);
            for (int what = 2; what <= 4; what++) {
                CHECKS.is("many(" + what + ")", q.many(what), 0);
            }
            CHECKS.is("read() again", q.read(), fault);
        }
        CHECKS.is("read() of a good one behind them", Make.read(q, "SELECT 0.0 FROM T0"), 0);
        CHECKS.is("results()", q.results(), 3);
    }

    private static void itsPlanIsAsAtFirst() {
        OrchardQuery q = Make.three();
        String text = "SELECT 0.0 FROM T0 T1 T2"
                + " WHERE 0.0 IS 0.0 AND 0.0 IS 1.0 AND 0.0 IS 1 AND 0.0 IS 2 AND 0.1 LESS 0.1";
        Make.read(q, text);
        long first = q.digest();
        CHECKS.is("TRUE", q.rewrite(0), 1);
        CHECKS.is("read() behind TRUE", q.read(), 0);
        CHECKS.is("as at first", q.digest(), first);
        CHECKS.is("DRAWN", q.rewrite(1), 2);
        CHECKS.is("read() behind DRAWN", q.read(), 0);
        CHECKS.is("as at first", q.digest(), first);
        CHECKS.is("DOWN", q.rewrite(2), 5);
        CHECKS.is("read() behind DOWN", q.read(), 0);
        CHECKS.is("as at first", q.digest(), first);
        CHECKS.is("NEVER", q.rewrite(3), 1);
        CHECKS.is("read() behind NEVER", q.read(), 0);
        CHECKS.is("as at first", q.digest(), first);
        CHECKS.is("swap()", q.swap(0, 2), 2);
        CHECKS.is("read() behind swap()", q.read(), 0);
        CHECKS.is("as at first", q.digest(), first);
        q.best();
        CHECKS.is("read() behind best()", q.read(), 0);
        CHECKS.is("as at first", q.digest(), first);
        CHECKS.is("read() behind read()", q.read(), 0);
        CHECKS.is("as at first", q.digest(), first);
    }

    /** What was asked before is not what is answered behind read(). */
    private static void whatIsAskedIsOfThatPlan() {
        OrchardQuery q = Make.three();
        Make.read(q, "SELECT 0.0 1.0 FROM T0 T1 WHERE 0.0 IS 2 AND 1.2 ISNOT 9");
        CHECKS.is("reads at first", q.wouldDo(0), 15);
        q.rewrite(2);
        CHECKS.is("reads behind DOWN", q.wouldDo(0), 7);
        q.read();
        CHECKS.is("reads as at first", q.wouldDo(0), 15);
        CHECKS.is("checks as at first", q.wouldDo(1), 12 + 4);
        CHECKS.is("results as at first", Make.results(q), "2 1, 2 1, 2 4");
        Make.read(q, "SELECT 0.0 1.0 FROM T0 T1 WHERE 1.0 LESS 2");
        q.swap(0, 1);
        CHECKS.is("the other way round", Make.results(q), "1 1, 2 1, 3 1, 1 1, 2 1, 3 1");
        q.read();
        CHECKS.is("results as at first", Make.results(q), "1 1, 1 1, 2 1, 2 1, 3 1, 3 1");
        Make.read(q, "SELECT COUNT FROM T0 WHERE 0.0 LESS 0.0");
        q.rewrite(3);
        CHECKS.is("reads of EMPTY", q.wouldDo(0), 0);
        q.read();
        CHECKS.is("reads as at first", q.wouldDo(0), 3);
    }

    private static void eachFault() {
        String[] faulty = {"FROM", "SELECT FROM", "SELECT 0.0 T0", "SELECT 0.0 FROM T3",
            "SELECT 0.0 FROM T0 WHERE 7", "SELECT 0.0 FROM T0 WHERE 0.0 AND",
            "SELECT 0.0 FROM T0 WHERE 0.0 IS T0", "SELECT 0.0 FROM T0 LIMIT 0.0",
            "SELECT 0.0 FROM T0 0.0", "SELECT 0.0 FROM T0 GROUP 1.0", "SELECT 0.0 FROM T0 ORDER 7"};
        int[] places = {0, 1, 2, 3, 5, 6, 7, 5, 4, 5, 5};
        OrchardQuery q = Make.three();
        for (int i = 0; i < faulty.length; i++) {
            CHECKS.is("read() of " + faulty[i], Make.read(q, faulty[i]), i + 1);
            CHECKS.is("faultAt()", q.faultAt(), places[i]);
        }
        CHECKS.is("read() without one", Make.read(q, "SELECT 0.0 FROM T0"), 0);
        CHECKS.is("faultAt()", q.faultAt(), -1);
    }

    private static void nothingIsLeftOfTheOneBefore() {
        OrchardQuery q = Make.three();
        Make.read(q, "SELECT COUNT 0.0 SUM 1.0 2.0 FROM T0 T1 T2 WHERE 0.0 IS 1 AND 0.0 IS 2"
                + " GROUP 0.0 ORDER 3 LIMIT 0");
        q.rewrite(3);
        q.swap(0, 2);
        CHECKS.is("read() of a short one", Make.read(q, "SELECT 0.1 FROM T0"), 0);
        CHECKS.is("items, seats, conditions", q.many(2) * 100 + q.many(3) * 10 + q.many(4), 110);
        CHECKS.is("results", Make.results(q), "10, 20, 10");
        CHECKS.is("order(0)", q.order(0), 0);
        CHECKS.is("cost()", q.cost(), 3);
        CHECKS.is("isEmpty()", q.isEmpty(), false);
        CHECKS.noIndex(q, "order(1)", () -> q.order(1));
        CHECKS.noIndex(q, "condition(0, 0)", () -> q.condition(0, 0));
        CHECKS.noIndex(q, "result(0, 1)", () -> q.result(0, 1));
    }

    private static void noConditionIsLeftOfTheOneBefore() {
        String[] befores = {"0.0 IS 0.0 AND 0.0 IS 0.0 AND 0.0 IS 0.0",
            "0.0 IS 0.1 AND 0.0 IS 1 AND 0.1 IS 0.0", "0.1 IS 1 AND 0.0 IS 2 AND 0.0 IS 0.1",
            "0.0 IS 1 AND 0.0 IS 2 AND 0.0 IS 3", "0.0 LESS 0.0 AND 0.0 ISNOT 0.0 AND 0.0 LESS 0.0"};
        String[] texts = {"", " WHERE 0.0 IS 1", " WHERE 0.0 IS 1 AND 0.0 IS 1", " WHERE 0.0 IS 0.1"};
        for (String before : befores) {
            for (String text : texts) {
                OrchardQuery q = Make.three();
                Make.read(q, "SELECT 0.0 FROM T0 T1 WHERE " + before + " AND " + before);
                Make.read(q, "SELECT 0.0 FROM T0" + text);
                for (int rule = 0; rule <= 3; rule++) {
                    CHECKS.is("rewrite(" + rule + ") of" + text + " behind " + before, q.rewrite(rule), 0);
                }
            }
        }
    }

    private static void nothingThatIsLeftIsThere() {
        OrchardQuery q = Make.three();
        Make.read(q, "SELECT 0.0 FROM T0 WHERE 0.1 IS 1 AND 0.1 IS 1 AND 0.1 IS 1 AND 0.1 IS 1");
        Make.read(q, "SELECT 0.0 FROM T0 WHERE 0.0 IS 0.1 AND 0.0 IS 1");
        CHECKS.is("DRAWN, as there was such a condition before", q.rewrite(1), 1);
        CHECKS.is("its left side", q.condition(2, 0), 101);
    }

    // ---- Promise 9

    private static void minusOneWithoutAFault() {
        OrchardQuery q = Make.three();
        CHECKS.is("before any read()", q.faultAt(), -1);
        Make.write(q, "SELECT");
        CHECKS.is("unread", q.faultAt(), -1);
        Make.read(q, "SELECT 0.0 FROM T0");
        CHECKS.is("without a fault", q.faultAt(), -1);
    }

    private static void minusOneBehindTokenAndClear() {
        OrchardQuery q = Make.three();
        Make.read(q, "SELECT");
        CHECKS.is("with a fault", q.faultAt(), 1);
        q.token(100);
        CHECKS.is("behind token()", q.faultAt(), -1);
        q.read();
        CHECKS.is("with a fault", q.faultAt(), 2);
        q.clear();
        CHECKS.is("behind clear()", q.faultAt(), -1);
        q.read();
        CHECKS.is("with a fault at the beginning", q.faultAt(), 0);
        q.clear();
        CHECKS.is("behind clear() of nothing", q.faultAt(), -1);
    }

    private static void thePlaceOfTheEnd() {
        String text = "SELECT 0.0 FROM T0 WHERE 0.0 IS 1 AND";
        int[] tokens = Make.tokens(text);
        int[] faults = {1, 2, 3, 4, 0, 5, 6, 7, 0, 5};
        for (int n = 0; n <= tokens.length; n++) {
            OrchardQuery q = Make.three();
            CHECKS.is("read() of " + n, Make.read(q, java.util.Arrays.copyOf(tokens, n)), faults[n]);
            CHECKS.is("its place", q.faultAt(), faults[n] == 0 ? -1 : n);
        }
        OrchardQuery q = Make.three();
        int[] forty = Make.tokens("SELECT 0.0 SUM 0.1 SUM 0.0 SUM 0.1 FROM T0 T1"
                + " WHERE 0.0 IS 1 AND 0.0 IS 1 AND 0.0 IS 1 AND 0.0 IS 1 AND 0.0 IS 1 AND 0.0 IS 1"
                + " GROUP 0.0 ORDER 3 LIMIT");
        CHECKS.is("as many as can be", forty.length, 40);
        CHECKS.is("read()", Make.read(q, forty), 8);
        CHECKS.is("its place", q.faultAt(), 40);
    }

    private static void thePlaceStays() {
        OrchardQuery q = Make.three();
        Make.read(q, "SELECT 0.0 FROM T0 T0 T0 T0");
        CHECKS.is("the place", q.faultAt(), 6);
        q.table(1);
        CHECKS.is("behind table()", q.faultAt(), 6);
        q.row(0, 1, 1, 1);
        CHECKS.is("behind row()", q.faultAt(), 6);
        q.drop(0, 0);
        CHECKS.is("behind drop()", q.faultAt(), 6);
        q.many(1);
        q.digest();
        CHECKS.is("behind what only asks", q.faultAt(), 6);
        CHECKS.is("read() again", q.read(), 9);
        CHECKS.is("behind that", q.faultAt(), 6);
        Make.read(q, "SELECT 0.0 FROM T0 T4");
        CHECKS.is("a table that is not there", q.faultAt(), 4);
        q.table(1);
        CHECKS.is("it comes: the place stays", q.faultAt(), 4);
        CHECKS.is("read() again", q.read(), 0);
        CHECKS.is("there was none", q.faultAt(), -1);
    }

    private static void thePlaceOfTheLastRead() {
        OrchardQuery q = Make.three();
        Make.read(q, "SELECT 0.0 FROM T3");
        CHECKS.is("the place at first", q.faultAt(), 3);
        q.table(2);
        q.read();
        CHECKS.is("-1 as it is READ", q.faultAt(), -1);
    }

    // ---- Promise 10

    private static void whatIsZeroToFour() {
        OrchardQuery q = Make.three();
        Make.read(q, "SELECT 0.0 COUNT SUM 0.0 FROM T0 T1 WHERE 0.0 IS 1");
        for (int what : new int[] {LEAST, -1, 5, 6, MOST}) {
            CHECKS.badArgument(q, "many(" + what + ")", () -> q.many(what));
        }
        int[] due = {3, 12, 3, 2, 1};
        for (int what = 0; what <= 4; what++) {
            CHECKS.is("many(" + what + ")", q.many(what), due[what]);
        }
        q.clear();
        for (int what : new int[] {LEAST, -1, 5, 6, MOST}) {
            CHECKS.badArgument(q, "many(" + what + ") unread", () -> q.many(what));
        }
    }

    private static void zeroIfItIsNotRead() {
        OrchardQuery q = Make.three();
        Make.write(q, "SELECT 0.0 COUNT FROM T0 T1 WHERE 0.0 IS 1");
        int[] unread = {3, 10, 0, 0, 0};
        for (int what = 0; what <= 4; what++) {
            CHECKS.is("many(" + what + ") before read()", q.many(what), unread[what]);
        }
        q.read();
        int[] read = {3, 10, 2, 2, 1};
        for (int what = 0; what <= 4; what++) {
            CHECKS.is("many(" + what + ") behind read()", q.many(what), read[what]);
        }
        q.token(0);
        q.read();
        unread[1] = 11;
        for (int what = 0; what <= 4; what++) {
            CHECKS.is("many(" + what + ") with a fault", q.many(what), unread[what]);
        }
    }

    private static void asManyAsCanBe() {
        OrchardQuery q = Make.tables(3, 3, 3, 3, 3);
        CHECKS.is("tables", q.many(0), 5);
        Make.read(q, "SELECT 0.0 1.0 2.0 COUNT FROM T0 T3 T4 WHERE 0.0 IS 1.0 AND 1.0 IS 2.0"
                + " AND 0.0 IS 1 AND 0.0 IS 2 AND 0.0 IS 3 AND 0.0 IS 4 LIMIT 1");
        CHECKS.is("tokens", q.many(1), 35);
        CHECKS.is("items", q.many(2), 4);
        CHECKS.is("seats", q.many(3), 3);
        CHECKS.is("conditions", q.many(4), 6);
        CHECKS.is("DRAWN", q.rewrite(1), 6);
        CHECKS.is("conditions of the PLAN", q.many(4), 12);
        CHECKS.is("tokens stay", q.many(1), 35);
        Make.read(q, "SELECT 0.0 FROM T0");
        CHECKS.is("one item, one seat, no condition",
                q.many(2) * 100 + q.many(3) * 10 + q.many(4), 110);
        Make.read(q, "SELECT 0.0 FROM T0 WHERE 0.0 IS 0.0");
        q.rewrite(0);
        CHECKS.is("a condition that went", q.many(4), 0);
    }

    private static void itStaysRead() {
        OrchardQuery q = Make.three();
        Make.read(q, "SELECT 0.0 FROM T0 T1");
        q.table(1);
        CHECKS.is("behind table()", q.many(3), 2);
        q.row(0, 9, 9, 9);
        CHECKS.is("behind row()", q.many(3), 2);
        q.drop(0, 0);
        CHECKS.is("behind drop()", q.many(3), 2);
        CHECKS.is("its results are those of now", q.results(), 12);
        q.rewrite(0);
        q.swap(0, 1);
        q.best();
        q.open();
        q.next();
        CHECKS.is("behind all that", q.many(3), 2);
    }

    public static void main(String[] args) {
        terms();
        tokenAndClear();
        readAndFaultAt();
        many();
        CHECKS.end();
    }

    private static void terms() {
        CHECKS.under("Terms");
        CHECKS.sentence("2 A QUERY is a row of at most 40 TOKENS:", QueryEdgesTest::fortyTokens);
        CHECKS.sentence("2 A QUERY is a row of at most 40 TOKENS:", QueryEdgesTest::a41stToken);
        CHECKS.sentence("0 SELECT, 1 FROM, 2 WHERE, 3 AND, 4 GROUP, 5 ORDER, 6 LIMIT, 7 COUNT, 8 SUM,"
                + " 9 IS, 10 IS NOT, 11 LESS;", QueryEdgesTest::whatEachWordIs);
        CHECKS.sentence("20 to 24 the TABLES 0 to 4;", QueryEdgesTest::whichTable);
        CHECKS.sentence("20 to 24 the TABLES", QueryEdgesTest::aTableThatIsNotThereIsAToken);
        CHECKS.sentence("20 to 24", QueryEdgesTest::everyToken);
        CHECKS.sentence("100 + 10 * s + c the COLUMN c (0 to 9) of the SEAT s (0 to 9);",
                QueryEdgesTest::whichColumn);
        CHECKS.sentence("1000 + v the NUMBER v (0 to 999).", QueryEdgesTest::whichNumber);
        CHECKS.sentence("the NUMBER v (0 to 999).", QueryEdgesTest::tokensBelowAndAbove);
        CHECKS.sentence("the one that is named first is thrown.", QueryEdgesTest::a41stThatIsNone);
        CHECKS.sentence("A method that throws an exception changes nothing.",
                QueryEdgesTest::refusedTokenLeavesItRead);
        CHECKS.sentence("as a TOKEN is added,", QueryEdgesTest::notReadBehindToken);
        CHECKS.sentence("or all are taken away,", QueryEdgesTest::notReadBehindClear);
        CHECKS.sentence("it is not READ any more.", QueryEdgesTest::itStaysRead);
    }

    private static void tokenAndClear() {
        CHECKS.under("Promise 6: token");
        CHECKS.sentence("Adds a TOKEN.", QueryEdgesTest::addedBehindTheOthers);
        CHECKS.sentence("`token`: the TOKEN", QueryEdgesTest::everyToken);
        CHECKS.sentence("Returns how many there are then.", QueryEdgesTest::fortyTokens);
        CHECKS.sentence("Throws `IllegalArgumentException` if it is none",
                QueryEdgesTest::tokensBelowAndAbove);
        CHECKS.sentence("Throws `IllegalStateException` if there are 40", QueryEdgesTest::a41stToken);

        CHECKS.under("Promise 7: clear");
        CHECKS.sentence("Takes all TOKENS away.", QueryEdgesTest::clearOfForty);
        CHECKS.sentence("Returns how many there were.", QueryEdgesTest::clearOfNothing);
    }

    private static void readAndFaultAt() {
        CHECKS.under("Promise 8: read");
        CHECKS.sentence("READS the QUERY;", QueryEdgesTest::nothingIsLeftOfTheOneBefore);
        CHECKS.sentence("READS the QUERY;", QueryEdgesTest::noConditionIsLeftOfTheOneBefore);
        CHECKS.sentence("READS the QUERY;", QueryEdgesTest::nothingThatIsLeftIsThere);
        CHECKS.sentence("with a FAULT it is not READ.", QueryEdgesTest::withAFaultItIsNotRead);
        CHECKS.sentence("Its PLAN is as at first.", QueryEdgesTest::itsPlanIsAsAtFirst);
        CHECKS.sentence("Its PLAN is as at first.", QueryEdgesTest::whatIsAskedIsOfThatPlan);
        CHECKS.sentence("Returns the FAULT;", QueryEdgesTest::eachFault);
        CHECKS.sentence("0 without one.", QueryEdgesTest::itStaysRead);

        CHECKS.under("Promise 9: faultAt");
        CHECKS.sentence("Returns the place of the FAULT with which it was READ last, from 0",
                QueryEdgesTest::eachFault);
        CHECKS.sentence("with which it was READ last", QueryEdgesTest::thePlaceStays);
        CHECKS.sentence("READ last", QueryEdgesTest::thePlaceOfTheLastRead);
        CHECKS.sentence("(as many as there are TOKENS at the end);", QueryEdgesTest::thePlaceOfTheEnd);
        CHECKS.sentence("-1 if there was none,", QueryEdgesTest::minusOneWithoutAFault);
        CHECKS.sentence("or read() was not called since token() or clear().",
                QueryEdgesTest::minusOneBehindTokenAndClear);
    }

    private static void many() {
        CHECKS.under("Promise 10: many");
        CHECKS.sentence("`what`: 0 TABLES, 1 TOKENS, 2 ITEMS, 3 SEATS, 4 CONDITIONS of the PLAN",
                QueryEdgesTest::asManyAsCanBe);
        CHECKS.sentence("(2 to 4: 0, if it is not READ)", QueryEdgesTest::zeroIfItIsNotRead);
        CHECKS.sentence("Returns how many there are.", QueryEdgesTest::asManyAsCanBe);
        CHECKS.sentence("Throws `IllegalArgumentException` if what is not 0 to 4",
                QueryEdgesTest::whatIsZeroToFour);
    }
}
