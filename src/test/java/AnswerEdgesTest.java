import java.math.BigInteger;
import java.util.function.IntConsumer;

/** The edges of RESULTS and of what would be: Term 5 and promises 23 to 28. */
public final class AnswerEdgesTest {
    private static final int LEAST = Integer.MIN_VALUE;
    private static final int MOST = Integer.MAX_VALUE;
    private static final Checks CHECKS = new Checks("AnswerEdgesTest");

    private static OrchardQuery three(String text) {
        return read(Make.three(), text);
    }

    private static OrchardQuery read(OrchardQuery q, String text) {
        CHECKS.is("read() of " + text, Make.read(q, text), 0);
        return q;
    }

    private static void results(OrchardQuery q, String text, String due) {
        CHECKS.is(text, Make.results(read(q, text)), due);
    }

    private static void outside(OrchardQuery q, String call, int size, IntConsumer to) {
        for (int place : new int[] {LEAST, -1, size, size + 1, MOST}) {
            CHECKS.noIndex(q, call + " of " + place, () -> to.accept(place));
        }
    }

    // ---- RESULTS

    private static void aValueForEachItem() {
        String[] items = {"0.0", "0.1", "0.0", "1.2"};
        String[] dues = {"1, 2", "1 10, 2 20", "1 10 1, 2 20 2", "1 10 1 7, 2 20 2 9"};
        String text = "SELECT";
        for (int n = 1; n <= 4; n++) {
            text = text + " " + items[n - 1];
            results(Make.three(), text + " FROM T0 T1 WHERE 0.0 IS 1.0 AND 1.1 IS 5", dues[n - 1]);
        }
        results(Make.three(), "SELECT COUNT COUNT SUM 0.0 0.1 FROM T0 GROUP 0.1", "2 2 4 10, 1 1 2 20");
        results(Make.three(), "SELECT SUM 0.0 SUM 0.1 SUM 0.0 FROM T0", "6 40 6");
    }

    private static void eachMeetingIsOne() {
        results(Make.three(), "SELECT 0.1 FROM T0", "10, 20, 10");
        results(Make.three(), "SELECT 0.0 1.0 FROM T0 T2 WHERE 0.1 IS 10", "1 5, 1 6, 3 5, 3 6");
        results(Make.three(), "SELECT 0.0 FROM T0 T2", "1, 1, 2, 2, 3, 3");
        results(Make.three(), "SELECT 0.0 FROM T2 T1 WHERE 1.2 IS 7", "5, 5, 6, 6");
        results(Make.three(), "SELECT 0.0 COUNT FROM T0 T2", "1 6");
        results(Make.three(), "SELECT SUM 0.0 FROM T0 T2", "12");
        results(Make.three(), "SELECT 0.0 FROM T0 WHERE 0.0 IS 9", "");
        results(Make.sized(0), "SELECT 0.0 FROM T0", "");
        results(Make.sized(2, 0), "SELECT 0.0 FROM T0 T1", "");
        results(Make.sized(2), "SELECT 0.0 1.0 2.0 FROM T0 T0 T0",
                "0 0 0, 0 0 1, 0 1 0, 0 1 1, 1 0 0, 1 0 1, 1 1 0, 1 1 1");
        OrchardQuery full = read(Make.sized(14, 14, 14), "SELECT 0.0 1.0 2.0 FROM T0 T1 T2");
        CHECKS.is("as many as can be", full.results(), 2744);
        CHECKS.is("the last one", full.result(2743, 0) + full.result(2743, 1) + full.result(2743, 2), 39);
        outside(full, "result() of 2744", 2744, place -> full.result(place, 0));
    }

    private static void oneForEachValueOfGroup() {
        results(Make.three(), "SELECT 0.1 FROM T0 GROUP 0.1", "10, 20");
        results(Make.three(), "SELECT COUNT 0.1 SUM 0.0 FROM T0 GROUP 0.1", "2 10 4, 1 20 2");
        results(Make.three(), "SELECT COUNT FROM T0 GROUP 0.0", "1, 1, 1");
        OrchardQuery full = read(Make.sized(14, 14), "SELECT 0.0 COUNT FROM T0 T1 GROUP 0.0");
        CHECKS.is("as many as can be", full.results(), 14);
        CHECKS.is("the last one", full.result(13, 0) * 100 + full.result(13, 1), 1314);
        results(Make.sized(14), "SELECT COUNT SUM 0.0 FROM T0 GROUP 0.1", "14 91");
    }

    private static void thatAMeetingHas() {
        results(Make.three(), "SELECT 0.0 COUNT FROM T0 WHERE 0.0 ISNOT 2 GROUP 0.0", "1 1, 3 1");
        results(Make.three(), "SELECT 0.0 COUNT FROM T0 WHERE 0.0 IS 9 GROUP 0.0", "");
        results(Make.three(), "SELECT COUNT FROM T0 T1 WHERE 1.0 IS 4 GROUP 1.0", "3");
        results(Make.sized(0), "SELECT COUNT FROM T0 GROUP 0.0", "");
        results(Make.sized(3, 0), "SELECT COUNT FROM T0 T1 GROUP 0.0", "");
    }

    private static void theSmallestFirst() {
        OrchardQuery q = Make.tables(2);
        int[] values = {0, 999, -999, 1, -1, 999, -998, 0};
        for (int i = 0; i < values.length; i++) {
            q.row(0, values[i], i, 0);
        }
        results(q, "SELECT 0.0 COUNT SUM 0.1 0.1 FROM T0 GROUP 0.0",
                "-999 1 2 2, -998 1 6 6, -1 1 4 4, 0 2 7 0, 1 1 3 3, 999 2 6 1");
        results(q, "SELECT COUNT 0.1 FROM T0 GROUP 0.0", "1 2, 1 6, 1 4, 2 0, 1 3, 2 1");
    }

    private static void withoutGroupThereIsOneInAnyCase() {
        String all = "SELECT COUNT SUM 0.0 0.0 SUM 0.1 FROM T0";
        results(Make.three(), all, "3 6 1 40");
        results(Make.three(), all + " WHERE 0.0 IS 9", "0 0 0 0");
        results(Make.sized(0), all, "0 0 0 0");
        results(Make.sized(0), "SELECT SUM 0.0 FROM T0", "0");
        results(Make.sized(0), "SELECT COUNT FROM T0", "0");
        results(Make.sized(2, 0), "SELECT 0.0 COUNT 1.0 FROM T0 T1", "0 0 0");
        results(Make.sized(0), all + " ORDER 2 LIMIT 1", "0 0 0 0");
        OrchardQuery never = three(all + " WHERE 0.0 LESS 0.0");
        never.rewrite(3);
        CHECKS.is("of EMPTY", Make.results(never), "0 0 0 0");
    }

    private static void aColumnThatOfItsFirstMeeting() {
        OrchardQuery q = Make.tables(2, 1);
        q.row(0, 5, 1, 0);
        q.row(0, 5, 2, 0);
        q.row(1, 8, 0, 0);
        q.row(1, 9, 0, 0);
        results(q, "SELECT 0.1 1.0 COUNT FROM T0 T1", "1 8 4");
        results(q, "SELECT 0.1 1.0 COUNT FROM T0 T1 WHERE 0.1 IS 2", "2 8 2");
        results(q, "SELECT 0.1 1.0 COUNT FROM T0 T1 WHERE 1.0 IS 9 GROUP 0.0", "1 9 2");
        results(q, "SELECT 0.1 1.0 FROM T0 T1 WHERE 0.1 ISNOT 1 GROUP 1.0", "2 8, 2 9");
        read(q, "SELECT 0.1 1.0 COUNT FROM T0 T1 WHERE 0.1 LESS 1.0 GROUP 0.0");
        CHECKS.is("in the order at first", Make.results(q), "1 8 4");
        OrchardQuery other = Make.tables(1, 1);
        other.row(0, 1, 0, 0);
        other.row(0, 2, 0, 0);
        other.row(1, 1, 0, 0);
        other.row(1, 0, 0, 0);
        read(other, "SELECT 0.0 1.0 COUNT FROM T0 T1 WHERE 0.0 ISNOT 1.0");
        CHECKS.is("the first meeting", Make.results(other), "1 0 3");
        other.swap(0, 1);
        CHECKS.is("the first meeting in another order", Make.results(other), "2 1 3");
    }

    private static void theGreatestAndTheLeastSum() {
        OrchardQuery q = Make.tables(2, 1, 1);
        for (int i = 0; i < 14; i++) {
            q.row(0, 999, -999, 0);
            q.row(1, i % 2 == 0 ? 999 : -999, 0, 0);
            q.row(2, i, 0, 0);
        }
        results(q, "SELECT SUM 0.0 SUM 0.1 SUM 1.0 COUNT FROM T0 T1 T2", "2741256 -2741256 0 2744");
        results(q, "SELECT SUM 0.0 SUM 0.1 COUNT SUM 2.0 FROM T0 T1 T2 GROUP 1.0",
                "1370628 -1370628 1372 8918, 1370628 -1370628 1372 8918");
        results(q, "SELECT SUM 0.1 COUNT FROM T0", "-13986 14");
    }

    private static void inOrderByThatItem() {
        results(Make.three(), "SELECT 0.0 0.1 FROM T0 ORDER 1", "1 10, 3 10, 2 20");
        results(Make.three(), "SELECT 0.0 0.1 FROM T0 ORDER 0", "1 10, 2 20, 3 10");
        results(Make.three(), "SELECT 0.0 0.0 0.0 1.2 FROM T2 T1 ORDER 3",
                "5 5 5 7, 5 5 5 7, 6 6 6 7, 6 6 6 7, 5 5 5 8, 6 6 6 8, 5 5 5 9, 6 6 6 9");
        results(Make.three(), "SELECT 0.0 SUM 1.2 COUNT FROM T0 T1 WHERE 0.0 IS 1.0 GROUP 0.0 ORDER 1",
                "2 9 1, 1 15 2");
        results(Make.three(), "SELECT 0.1 COUNT FROM T1 GROUP 0.1 ORDER 1", "6 1, 5 3");
        OrchardQuery q = Make.tables(1);
        for (int v : new int[] {999, 0, -1, -999, 1}) {
            q.row(0, v, 0, 0);
        }
        results(q, "SELECT 0.0 FROM T0 ORDER 0", "-999, -1, 0, 1, 999");
        results(q, "SELECT SUM 0.0 FROM T0 GROUP 0.0 ORDER 0", "-999, -1, 0, 1, 999");
    }

    /** Sums are less and more than any VALUE is; some lie between others by one alone. */
    private static void inOrderByGreatSums() {
        OrchardQuery q = Make.tables(2, 1);
        int[] values = {999, -999, 998, -998, 1, 0, -1};
        for (int i = 0; i < 7; i++) {
            q.row(0, i, values[i], 0);
            q.row(1, i, 0, 0);
        }
        results(q, "SELECT SUM 0.1 0.0 FROM T0 T1 GROUP 0.0 ORDER 0",
                "-6993 1, -6986 3, -7 6, 0 5, 7 4, 6986 2, 6993 0");
        results(q, "SELECT SUM 0.1 0.0 FROM T0 T1 T1 GROUP 0.0 ORDER 0 LIMIT 3", "-48951 1, -48902 3, -49 6");
        OrchardQuery full = Make.tables(2, 1);
        for (int i = 0; i < 14; i++) {
            full.row(0, i % 2, i % 2 == 0 ? 999 : -999, 0);
            full.row(1, 0, 0, 0);
        }
        results(full, "SELECT SUM 0.1 0.0 FROM T0 T1 T1 GROUP 0.0 ORDER 0", "-1370628 1, 1370628 0");
    }

    private static void thoseAlikeAsTheyWere() {
        OrchardQuery q = Make.tables(2);
        for (int i = 0; i < 14; i++) {
            q.row(0, -(i % 2), i, 0);
        }
        results(q, "SELECT 0.0 0.1 FROM T0 ORDER 0", "-1 1, -1 3, -1 5, -1 7, -1 9, -1 11, -1 13,"
                + " 0 0, 0 2, 0 4, 0 6, 0 8, 0 10, 0 12");
        results(q, "SELECT 0.1 COUNT FROM T0 WHERE 0.1 LESS 5 GROUP 0.1 ORDER 1",
                "0 1, 1 1, 2 1, 3 1, 4 1");
    }

    private static void noMoreThanLimit() {
        String[] dues = {"", "10", "10, 20", "10, 20, 10", "10, 20, 10"};
        for (int limit = 0; limit <= 4; limit++) {
            results(Make.three(), "SELECT 0.1 FROM T0 LIMIT " + limit, dues[limit]);
        }
        String[] ordered = {"", "10", "10, 10", "10, 10, 20", "10, 10, 20"};
        for (int limit = 0; limit <= 4; limit++) {
            results(Make.three(), "SELECT 0.1 FROM T0 ORDER 0 LIMIT " + limit, ordered[limit]);
        }
        String[] groups = {"", "10 2", "10 2, 20 1", "10 2, 20 1"};
        for (int limit = 0; limit <= 3; limit++) {
            results(Make.three(), "SELECT 0.1 COUNT FROM T0 GROUP 0.1 LIMIT " + limit, groups[limit]);
        }
        results(Make.three(), "SELECT 0.1 COUNT FROM T0 GROUP 0.1 ORDER 1 LIMIT 1", "20 1");
        results(Make.three(), "SELECT COUNT FROM T0 LIMIT 1", "3");
        results(Make.three(), "SELECT COUNT FROM T0 LIMIT 2", "3");
        results(Make.three(), "SELECT COUNT FROM T0 LIMIT 0", "");
        results(Make.three(), "SELECT 0.0 FROM T0 LIMIT 999", "1, 2, 3");
        OrchardQuery full = read(Make.sized(14, 14, 14), "SELECT 2.0 FROM T0 T1 T2 LIMIT 999");
        CHECKS.is("the greatest LIMIT", full.results(), 999);
        CHECKS.is("the last result", full.result(998, 0), 998 % 14);
    }

    // ---- Promises 23 and 24

    private static void eachPlaceAndItem() {
        OrchardQuery q = three("SELECT 0.0 1.2 0.1 2.0 FROM T0 T1 T2 WHERE 0.0 IS 1.0 AND 1.1 IS 2.0");
        int[][] dues = {{1, 7, 10, 5}, {1, 8, 10, 6}, {2, 9, 20, 5}};
        CHECKS.is("results()", q.results(), dues.length);
        for (int item = 3; item >= 0; item--) {
            for (int place = 2; place >= 0; place--) {
                CHECKS.is("result(" + place + ", " + item + ")", q.result(place, item), dues[place][item]);
            }
        }
    }

    /** How far one has pulled is nothing to what would be. */
    private static void whereverOneIs() {
        OrchardQuery q = three("SELECT 0.0 FROM T0 T1 WHERE 0.0 IS 1.0 AND 1.1 IS 5");
        String due = "2 15 15";
        CHECKS.is("before open()", q.results() + " " + q.wouldDo(0) + " " + q.wouldDo(1), due);
        q.open();
        for (int turn = 0; turn < 4; turn++) {
            CHECKS.is("behind " + turn, q.results() + " " + q.wouldDo(0) + " " + q.wouldDo(1), due);
            CHECKS.is("next()", q.next(), turn < 2);
        }
    }

    private static void noSuchResultOrItem() {
        OrchardQuery none = three("SELECT 0.0 FROM T0 WHERE 0.0 IS 9");
        CHECKS.is("results()", none.results(), 0);
        outside(none, "result() of none", 0, place -> none.result(place, 0));
        OrchardQuery q = three("SELECT 0.0 0.1 FROM T0");
        CHECKS.is("results()", q.results(), 3);
        outside(q, "result() of three", 3, place -> q.result(place, 0));
        outside(q, "item", 2, item -> q.result(0, item));
        outside(q, "item of the last", 2, item -> q.result(2, item));
        CHECKS.is("the last result", q.result(2, 1), 10);
        OrchardQuery one = three("SELECT COUNT FROM T0");
        outside(one, "result() of one", 1, place -> one.result(place, 0));
        outside(one, "item of one", 1, item -> one.result(0, item));
        OrchardQuery limited = three("SELECT 0.0 FROM T0 LIMIT 2");
        outside(limited, "result() with LIMIT", 2, place -> limited.result(place, 0));
        OrchardQuery ordered = three("SELECT 0.0 FROM T0 ORDER 0 LIMIT 2");
        outside(ordered, "result() with ORDER and LIMIT", 2, place -> ordered.result(place, 0));
        OrchardQuery groups = three("SELECT 0.0 FROM T0 GROUP 0.0 LIMIT 2");
        outside(groups, "result() with GROUP and LIMIT", 2, place -> groups.result(place, 0));
        OrchardQuery four = three("SELECT 0.0 0.1 COUNT SUM 0.0 FROM T0");
        outside(four, "item of four", 4, item -> four.result(0, item));
        CHECKS.is("the last of four", four.result(0, 3), 6);
    }

    /** Whatever is asked first behind a change, it is of what is now. */
    private static void whicheverIsAskedFirst() {
        String[] asked = {"result 1 0", "results", "wouldDo 0", "share", "digest", "meetingsWithout 0",
            "result 3 0"};
        String[] changes = {"read", "row 0 0 0 0", "drop 0 0", "swap 0 1", "rewrite 2", "best", "open; next"};
        for (String call : asked) {
            for (String change : changes) {
                OrchardQuery q = three("SELECT 1.0 FROM T0 T1 WHERE 1.2 ISNOT 8");
                OrchardQuery other = three("SELECT 1.0 FROM T0 T1 WHERE 1.2 ISNOT 8");
                q.digest();
                Script.run(q, change);
                Script.run(other, change);
                String got = Script.call(q, call);
                other.digest();
                CHECKS.is(call + " behind " + change, got, Script.call(other, call));
            }
        }
        OrchardQuery q = three("SELECT 0.0 FROM T0");
        CHECKS.is("result() behind read()", q.result(0, 0), 1);
        q.drop(0, 0);
        CHECKS.is("result() behind drop()", q.result(0, 0), 2);
    }

    private static void asTheTablesAreNow() {
        OrchardQuery q = three("SELECT 0.0 FROM T0 WHERE 0.0 LESS 5");
        CHECKS.is("at first", Make.results(q), "1, 2, 3");
        q.row(0, 4, 4, 4);
        CHECKS.is("behind row()", Make.results(q), "1, 2, 3, 4");
        q.row(0, 5, 5, 5);
        CHECKS.is("behind a row for which it doesn't hold", Make.results(q), "1, 2, 3, 4");
        q.drop(0, 0);
        CHECKS.is("behind drop()", Make.results(q), "2, 3, 4");
        q.drop(0, 0);
        q.drop(0, 0);
        q.drop(0, 0);
        q.drop(0, 0);
        CHECKS.is("without rows", q.results(), 0);
        CHECKS.is("reads without rows", q.wouldDo(0), 0);
        CHECKS.is("share() without rows", q.share(), 0.0);
    }

    private static void nothingIsChanged() {
        OrchardQuery q = three("SELECT 0.0 FROM T0 T1 WHERE 0.0 IS 1.0 LIMIT 2");
        for (int turn = 0; turn < 3; turn++) {
            long before = q.digest();
            q.results();
            q.result(1, 0);
            q.wouldDo(0);
            q.wouldDo(1);
            q.meetingsWithout(0);
            q.share();
            CHECKS.is("digest()", q.digest(), before);
            if (turn == 0) {
                CHECKS.badState(q, "next() not begun", q::next);
                q.open();
            }
            CHECKS.is("next()", q.next(), turn < 2);
            CHECKS.is("done(2)", q.done(2), Math.min(turn + 1, 2));
        }
    }

    // ---- Promise 25

    private static void whatOfWouldDo() {
        OrchardQuery q = three("SELECT 0.0 FROM T0 WHERE 0.0 ISNOT 1 AND 0.0 IS 2");
        for (int what : new int[] {LEAST, -1, 2, 3, MOST}) {
            CHECKS.badArgument(q, "wouldDo(" + what + ")", () -> q.wouldDo(what));
        }
        CHECKS.is("wouldDo(0)", q.wouldDo(0), 3);
        CHECKS.is("wouldDo(1)", q.wouldDo(1), 5);
    }

    private static void withThePullThatFindsNone() {
        OrchardQuery q = three("SELECT 0.0 FROM T0 WHERE 0.0 IS 1");
        CHECKS.is("reads behind the last result", q.wouldDo(0), 3);
        CHECKS.is("checks behind the last result", q.wouldDo(1), 3);
        q.open();
        q.next();
        CHECKS.is("reads, wherever one is", q.wouldDo(0), 3);
        CHECKS.is("those that were done", q.done(0), 1);
        CHECKS.is("with LIMIT", three("SELECT 0.0 FROM T0 WHERE 0.0 IS 1 LIMIT 1").wouldDo(0), 1);
        CHECKS.is("with LIMIT 0", three("SELECT COUNT FROM T0 LIMIT 0").wouldDo(0), 0);
        CHECKS.is("with ORDER and LIMIT", three("SELECT 0.0 FROM T0 ORDER 0 LIMIT 1").wouldDo(0), 3);
        CHECKS.is("without a result", three("SELECT 0.0 FROM T0 WHERE 0.0 IS 9").wouldDo(0), 3);
        OrchardQuery never = three("SELECT 0.0 FROM T0 WHERE 0.0 LESS 0.0");
        never.rewrite(3);
        CHECKS.is("of EMPTY", never.wouldDo(0) + never.wouldDo(1), 0);
        OrchardQuery full = read(Make.sized(14, 14, 14), "SELECT 0.0 FROM T0 T1 T2 WHERE 0.0 ISNOT 99"
                + " AND 1.0 ISNOT 99 AND 2.0 ISNOT 99 AND 0.0 ISNOT 99 AND 1.0 ISNOT 99 AND 2.0 ISNOT 99");
        CHECKS.is("the most reads", full.wouldDo(0), 2954);
        CHECKS.is("the most checks of six", full.wouldDo(1), 2744 * 6);
        OrchardQuery alike = Make.tables(3, 3, 3);
        for (int i = 0; i < 42; i++) {
            alike.row(i % 3, 7, 7, 7);
        }
        read(alike, "SELECT COUNT FROM T0 T1 T2 WHERE 0.0 IS 0.1 AND 0.1 IS 0.2 AND 0.2 IS 1.0"
                + " AND 1.0 IS 1.1 AND 1.1 IS 2.0 AND 2.0 IS 7");
        CHECKS.is("DRAWN", alike.rewrite(1), 5);
        CHECKS.is("the most checks", alike.wouldDo(1), 2744 * 11);
        CHECKS.is("all of them hold", alike.result(0, 0), 2744);
    }

    // ---- Promise 26

    private static void withoutIt() {
        OrchardQuery q = three("SELECT 0.0 FROM T0 T1 WHERE 0.0 IS 1.0 AND 1.1 IS 5 AND 0.1 IS 20");
        CHECKS.is("without the first", q.meetingsWithout(0), 3);
        CHECKS.is("without the second", q.meetingsWithout(1), 1);
        CHECKS.is("without the third", q.meetingsWithout(2), 2);
        outside(q, "meetingsWithout()", 3, q::meetingsWithout);
        OrchardQuery none = three("SELECT 0.0 FROM T0");
        outside(none, "meetingsWithout() of none", 0, none::meetingsWithout);
        OrchardQuery one = read(Make.sized(14, 14, 14), "SELECT 0.0 FROM T0 T1 T2 WHERE 0.0 LESS 0");
        CHECKS.is("as many as can be", one.meetingsWithout(0), 2744);
        OrchardQuery twelve = three("SELECT 0.0 FROM T1 WHERE 0.0 IS 0.1 AND 0.1 IS 0.2"
                + " AND 0.0 IS 5 AND 0.0 IS 6 AND 0.0 IS 7 AND 0.2 ISNOT 5");
        twelve.rewrite(1);
        outside(twelve, "meetingsWithout() of twelve", 12, twelve::meetingsWithout);
        CHECKS.is("without the last of twelve", twelve.meetingsWithout(11), 0);
    }

    /** Those that say the same, or that were drawn from it, are asked as before. */
    private static void withoutThatOneAlone() {
        OrchardQuery twice = three("SELECT 0.0 FROM T0 WHERE 0.0 IS 1 AND 0.0 IS 1 AND 0.1 IS 10");
        CHECKS.is("without one of two alike", twice.meetingsWithout(0), 1);
        CHECKS.is("without the other", twice.meetingsWithout(1), 1);
        CHECKS.is("without the third", twice.meetingsWithout(2), 1);
        OrchardQuery drawn = three("SELECT 0.0 FROM T0 T1 WHERE 0.0 IS 1.0 AND 0.0 IS 1");
        CHECKS.is("without the join", drawn.meetingsWithout(0), 4);
        CHECKS.is("without the number", drawn.meetingsWithout(1), 3);
        drawn.rewrite(1);
        CHECKS.is("without the join, behind DRAWN", drawn.meetingsWithout(0), 2);
        CHECKS.is("without the number, behind DRAWN", drawn.meetingsWithout(1), 2);
        CHECKS.is("without what is drawn", drawn.meetingsWithout(2), 2);
        drawn.rewrite(2);
        drawn.swap(0, 1);
        CHECKS.is("wherever it is asked", drawn.meetingsWithout(0), 2);
        CHECKS.is("it is there still", drawn.many(4), 3);
    }

    private static void meetingsAreNotCutByLimit() {
        OrchardQuery q = three("SELECT COUNT FROM T0 T1 WHERE 0.0 IS 9 LIMIT 0");
        CHECKS.is("with LIMIT 0", q.meetingsWithout(0), 12);
        OrchardQuery one = three("SELECT 0.0 FROM T0 T1 WHERE 0.0 ISNOT 9 LIMIT 1");
        CHECKS.is("with LIMIT 1", one.meetingsWithout(0), 12);
        CHECKS.is("share() with LIMIT 1", one.share(), 1.0);
        OrchardQuery group = three("SELECT COUNT FROM T0 T1 WHERE 0.0 IS 1 GROUP 0.0 ORDER 0 LIMIT 0");
        CHECKS.is("share() with LIMIT 0", group.share(), 4.0 / 12);
    }

    private static void asIfNotEmpty() {
        OrchardQuery q = three("SELECT 0.0 FROM T0 WHERE 0.0 IS 1 AND 0.0 IS 2 AND 0.1 IS 10");
        q.rewrite(3);
        CHECKS.is("without the first", q.meetingsWithout(0), 0);
        CHECKS.is("without the second", q.meetingsWithout(1), 1);
        CHECKS.is("without the third", q.meetingsWithout(2), 0);
        OrchardQuery twice = three("SELECT 0.0 FROM T0 T1 WHERE 0.0 ISNOT 0.0");
        twice.rewrite(3);
        CHECKS.is("without the only one", twice.meetingsWithout(0), 12);
        CHECKS.is("it stays EMPTY", twice.isEmpty(), true);
        CHECKS.is("share()", twice.share(), 0.0);
        CHECKS.is("reads", twice.wouldDo(0), 0);
    }

    // ---- Promise 27

    private static void zeroIfThatIsZero() {
        CHECKS.is("no rows", read(Make.sized(0), "SELECT 0.0 FROM T0").share(), 0.0);
        CHECKS.is("no rows of one", read(Make.sized(3, 0, 2), "SELECT 0.0 FROM T0 T1 T2").share(), 0.0);
        CHECKS.is("COUNT", read(Make.sized(0), "SELECT COUNT FROM T0").share(), 0.0);
        CHECKS.is("no meeting", three("SELECT 0.0 FROM T0 WHERE 0.0 IS 9").share(), 0.0);
        CHECKS.is("all meetings", three("SELECT 0.0 FROM T0 T1 T2").share(), 1.0);
        CHECKS.is("all of one", read(Make.sized(1), "SELECT 0.0 FROM T0").share(), 1.0);
        CHECKS.is("COUNT of all", three("SELECT COUNT FROM T0").share(), 1.0);
    }

    private static void notCut() {
        CHECKS.is("1 of 3", three("SELECT 0.0 FROM T0 WHERE 0.0 IS 2").share(), 1.0 / 3);
        CHECKS.is("2 of 3", three("SELECT 0.0 FROM T0 WHERE 0.0 ISNOT 2").share(), 2.0 / 3);
        CHECKS.is("3 of 12", three("SELECT 0.0 FROM T0 T1 WHERE 0.0 IS 1.0").share(), 0.25);
        OrchardQuery full = read(Make.sized(14, 14, 14), "SELECT COUNT FROM T0 T1 T2"
                + " WHERE 0.0 IS 13 AND 1.0 IS 13 AND 2.0 IS 13");
        CHECKS.is("1 of 2744", full.share(), 1.0 / 2744);
        OrchardQuery most = read(Make.sized(14, 14), "SELECT 0.0 FROM T0 T1 WHERE 0.0 ISNOT 1.0");
        CHECKS.is("182 of 196", most.share(), 182.0 / 196);
        OrchardQuery never = three("SELECT 0.0 FROM T0 WHERE 0.0 IS 1 AND 0.0 IS 2");
        never.rewrite(3);
        CHECKS.is("of EMPTY", never.share(), 0.0);
    }

    // ---- Promise 28

    /** The checksum of these numbers, reckoned without a bound and then cut to 64 bits. */
    private static long sum(String numbers) {
        BigInteger d = BigInteger.valueOf(58086);
        for (String number : numbers.trim().split(" +")) {
            d = d.multiply(BigInteger.valueOf(31)).add(new BigInteger(number));
        }
        return d.longValue();
    }

    private static void ofNothing() {
        OrchardQuery q = new OrchardQuery();
        CHECKS.is("a new object", q.digest(), sum("0 0 0 0 0 -1"));
        q.table(3);
        CHECKS.is("a table without rows", q.digest(), sum("1 0 0 0 0 0 0 0 0 -1"));
        q.read();
        CHECKS.is("a fault", q.digest(), sum("1 0 0 0 0 0 0 0 0 0"));
        q.row(0, -999, 999, 0);
        CHECKS.is("a row", q.digest(), sum("1 0 0 0 0 1 -999 999 0 1 1 1 0"));
        q.token(0);
        CHECKS.is("a token", q.digest(), sum("1 1 0 0 0 1 -999 999 0 1 1 1 -1"));
    }

    private static void itWrapsAround() {
        OrchardQuery q = Make.tables(3, 3, 3, 3, 3);
        StringBuilder numbers = new StringBuilder("5 0 0 0 0 ");
        for (int t = 0; t < 5; t++) {
            numbers.append("14 ");
            for (int i = 0; i < 14; i++) {
                q.row(t, 999, -999, i);
                numbers.append("999 -999 ").append(i).append(' ');
            }
            numbers.append("1 1 14 ");
        }
        CHECKS.is("of all that can be there", q.digest(), sum(numbers + "-1"));
    }

    private static void ifItIsRead() {
        OrchardQuery q = Make.tables(2);
        q.row(0, 3, -4, 0);
        q.row(0, 3, 5, 0);
        Make.write(q, "SELECT 0.1 FROM T0 WHERE 0.0 IS 3 AND 0.0 LESS 0.1");
        String table = "2 3 -4 3 5 1 2 ";
        CHECKS.is("unread", q.digest(), sum("1 12 0 0 0 " + table + "-1"));
        q.read();
        String plan = "0 100 9 1003 0 0 1000 100 11 101 0 0 333 0 0 2 ";
        CHECKS.is("read", q.digest(), sum("1 12 1 1 2 " + table + "-1 " + plan + "0 0 0 1 5 2 4"));
        q.open();
        q.next();
        CHECKS.is("pulled", q.digest(), sum("1 12 1 1 2 " + table + "-1 " + plan + "2 4 1 1 5 2 4"));
        q.next();
        CHECKS.is("at the end", q.digest(), sum("1 12 1 1 2 " + table + "-1 " + plan + "2 4 1 1 5 2 4"));
        q.token(6);
        CHECKS.is("not read any more", q.digest(), sum("1 13 0 0 0 " + table + "-1"));
        q.read();
        CHECKS.is("with a fault", q.digest(), sum("1 13 0 0 0 " + table + "13"));
    }

    private static void isEmptyIsOneOrZero() {
        OrchardQuery q = Make.tables(1);
        q.row(0, 7, 0, 0);
        Make.read(q, "SELECT COUNT 0.0 FROM T0 WHERE 0.0 LESS 0.0");
        String head = "1 9 2 1 1 1 7 1 -1 ";
        CHECKS.is("not EMPTY", q.digest(), sum(head + "0 100 11 100 0 0 333 0 0 1 0 0 0 1 0 0 1 1"));
        q.rewrite(3);
        CHECKS.is("EMPTY", q.digest(), sum(head + "1 100 11 100 0 0 333 0 0 0 0 0 0 1 0 0 0 0"));
    }

    private static void theFirstTenOrAll() {
        for (int rows : new int[] {0, 1, 9, 10, 11, 14}) {
            OrchardQuery q = Make.tables(1);
            StringBuilder values = new StringBuilder();
            StringBuilder results = new StringBuilder();
            for (int i = 0; i < rows; i++) {
                q.row(0, i * 7, 0, 0);
                values.append(i * 7).append(' ');
                results.append(i < 10 ? i * 7 + " " + i * 7 + " " : "");
            }
            Make.read(q, "SELECT 0.0 0.0 FROM T0");
            String numbers = "1 5 2 1 0 " + rows + " " + values + rows + " -1 0 0 " + rows + " " + rows
                    + " 0 0 0 " + rows + " " + results + rows + " 0";
            CHECKS.is("with " + rows + " results", q.digest(), sum(numbers));
        }
    }

    private static void eachPlaceOfTheOrder() {
        OrchardQuery q = Make.sized(1, 2, 3);
        Make.read(q, "SELECT COUNT FROM T0 T1 T2 LIMIT 0");
        q.swap(0, 2);
        String tables = "1 0 0 0 1 1 1 2 0 0 0 1 0 -1 2 1 2 3 0 0 0 1 0 -1 2 0 -2 3 1 3 ";
        CHECKS.is("three seats", q.digest(),
                sum("3 8 1 3 0 " + tables + "-1 0 2 3 1 6 0 6 15 0 0 0 0 0 0"));
    }

    private static void manyOfEach() {
        OrchardQuery q = Make.tables(1, 2);
        CHECKS.is("tables", q.digest(), sum("2 0 0 0 0 0 0 0 0 0 -1"));
        Make.write(q, "SELECT 0.0 COUNT FROM T0 T1 T1 WHERE 0.0 IS 7 LIMIT 0");
        CHECKS.is("tokens", q.digest(), sum("2 13 0 0 0 0 0 0 0 0 -1"));
        q.read();
        CHECKS.is("items, seats and conditions", q.digest(), sum("2 13 2 3 1 0 0 0 0 0 -1"
                + " 0 100 9 1007 2 0 1000 0 0 1 0 2 0 0 0 0 0 0 0 0"));
    }

    private static void eachTableRowByRow() {
        OrchardQuery q = Make.tables(2, 1, 3, 1, 2);
        q.row(0, 1, 2, 3);
        q.row(0, 3, 2, 3);
        q.row(0, 3, 2, 3);
        q.row(2, 7, 8, 9);
        q.row(2, 7, 6, 5);
        q.row(4, -7, 0, 0);
        CHECKS.is("five tables", q.digest(), sum("5 0 0 0 0 3 1 2 3 2 3 2 2 1 0 0"
                + " 2 7 8 9 7 6 5 1 2 2 0 0 1 -7 0 1 1 -1"));
        q.drop(0, 0);
        CHECKS.is("a row less", q.digest(), sum("5 0 0 0 0 2 3 2 3 2 1 1 0 0"
                + " 2 7 8 9 7 6 5 1 2 2 0 0 1 -7 0 1 1 -1"));
    }

    private static void eachOfTheConditions() {
        OrchardQuery q = Make.tables(2);
        q.row(0, 3, 3, 0);
        q.row(0, 4, 3, 0);
        Make.read(q, "SELECT COUNT FROM T0 T0 WHERE 0.0 IS 1.1 AND 1.1 IS 3 AND 0.1 ISNOT 999 LIMIT 0");
        String tables = "2 3 3 4 3 2 1 -1 ";
        CHECKS.is("three conditions", q.digest(), sum("1 19 1 2 3 " + tables + "0 100 9 111 1 1 500"
                + " 111 9 1003 1 1 1000 101 10 1999 1 0 0 0 2 1 0 6 0 0 0 0 0 0"));
        q.rewrite(1);
        q.rewrite(2);
        CHECKS.is("four conditions", q.digest(), sum("1 19 1 2 4 " + tables + "0 100 9 111 1 1 500"
                + " 111 9 1003 1 1 1000 101 10 1999 0 0 0 100 9 1003 0 0 500 0 0 1 0 2 0 0 0 0 0 0"));
    }

    /** The checksum of what the calls themselves answer, in the order that the document has. */
    private static long sumOfAnswers(OrchardQuery q, String tables) {
        StringBuilder x = new StringBuilder();
        for (int what = 0; what <= 4; what++) {
            x.append(q.many(what)).append(' ');
        }
        x.append(tables).append(' ').append(q.faultAt()).append(' ').append(q.isEmpty() ? 1 : 0);
        for (int i = 0; i < q.many(4); i++) {
            for (int what = 0; what <= 5; what++) {
                x.append(' ').append(q.condition(i, what));
            }
        }
        for (int place = 0; place < q.many(3); place++) {
            x.append(' ').append(q.order(place)).append(' ').append(q.guess(place));
        }
        x.append(' ').append(q.cost());
        for (int what = 0; what <= 2; what++) {
            x.append(' ').append(q.done(what));
        }
        x.append(' ').append(q.results());
        for (int place = 0; place < q.results() && place < 10; place++) {
            for (int item = 0; item < q.many(2); item++) {
                x.append(' ').append(q.result(place, item));
            }
        }
        return sum(x.append(' ').append(q.wouldDo(0)).append(' ').append(q.wouldDo(1)).toString());
    }

    private static void asTheCallsAnswer() {
        String tables = "3 1 10 2 20 3 10 3 2 4 1 5 7 1 6 8 2 5 9 4 5 7 3 2 3 2 5 6 2";
        String[] texts = {"SELECT 0.0 0.1 1.2 2.0 FROM T0 T1 T2 WHERE 0.0 LESS 9 AND 2.0 ISNOT 1.0",
            "SELECT COUNT 0.0 SUM 1.0 FROM T0 T1 WHERE 0.0 IS 1.0 GROUP 1.2 ORDER 1 LIMIT 2",
            "SELECT 0.0 1.0 FROM T1 T0 WHERE 0.0 IS 0.1 AND 0.1 IS 1.0 AND 0.0 IS 4 AND 0.0 IS 5"
                + " AND 0.2 ISNOT 7 AND 1.0 LESS 3", "SELECT 2.0 0.0 FROM T2 T2 T1 LIMIT 11"};
        String[] changes = {"open; next; next", "rewrite 1; rewrite 2", "swap 0 1; open; next", "best",
            "rewrite 3; open; next; next", "rewrite 2; swap 1 0; open; next; next; next; next"};
        for (String text : texts) {
            for (String change : changes) {
                OrchardQuery q = three(text);
                Script.run(q, change);
                CHECKS.is("of " + text + " behind " + change, q.digest(), sumOfAnswers(q, tables));
            }
        }
    }

    /** Each call that many times, as far as there are 512; then all is as in the model. */
    private static void each512Times() {
        String[] calls = {"table 1", "row 0 1 2 3; drop 0 1", "row 0 1000 0 0", "drop 0 9", "variety 0 0",
            "token 12", "token 100; clear", "read", "faultAt", "many 4", "condition 0 5", "rewrite 1",
            "rewrite 2; swap 0 1", "swap 1 0", "best", "order 1", "guess 1", "cost", "isEmpty", "open",
            "next", "value 0", "done 1", "results", "result 1 0", "wouldDo 1", "meetingsWithout 0", "share",
            "digest", "open; next; next; next; done 0"};
        String begun = "table 2; row 0 1 2 0; row 0 3 4 0; query SELECT 0.0 1.1 FROM T0 T0"
                + " WHERE 0.0 IS 1.0; read; open; next";
        String end = "next; value 1; open; rewrite 1; best; condition 0 3; guess 1; share; wouldDo 0;"
                + " row 0 3 5 0; results; result 0 0; token 6; token 1001; read; results; faultAt; digest";
        for (String call : calls) {
            OrchardQuery q = new OrchardQuery();
            Model model = new Model();
            int made = 3 + 1 + 10 + 3;
            int more = call.split(";").length;
            CHECKS.is(begun, Script.run(q, begun), Script.run(model, begun));
            for (int i = made; i + more + end.split(";").length <= 512; i += more) {
                Script.run(q, call);
                Script.run(model, call);
            }
            CHECKS.is("behind " + call, Script.run(q, end), Script.run(model, end));
        }
    }

    /** As many calls as an object is used for; the last ones answer as the first ones do. */
    private static void theLastOf512Calls() {
        OrchardQuery q = new OrchardQuery();
        q.table(1);
        q.row(0, 5, 0, 0);
        for (int token : Make.tokens("SELECT 0.0 FROM T0")) {
            q.token(token);
        }
        q.read();
        int calls = 7;
        for (; calls + 6 <= 511; calls += 6) {
            q.row(0, 6, 0, 0);
            q.swap(0, 0);
            q.open();
            q.next();
            q.next();
            CHECKS.is("drop()", q.drop(0, 1), 1);
        }
        for (; calls < 511; calls++) {
            q.open();
        }
        CHECKS.is("the 512th call", q.digest(), sum("1 4 1 1 0 1 5 1 -1 0 0 1 1 0 0 0 1 5 1 0"));
    }

    public static void main(String[] args) {
        results();
        resultsAndResult();
        wouldDoAndMeetings();
        shareAndChecksum();
        checksum();
        CHECKS.end();
    }

    private static void results() {
        CHECKS.under("What it is");
        CHECKS.sentence("An object is used for at most 512 calls after it has been made;"
                + " what later calls answer is free.", AnswerEdgesTest::theLastOf512Calls);
        CHECKS.sentence("An object is used for at most 512 calls", AnswerEdgesTest::each512Times);

        CHECKS.under("Terms");
        CHECKS.sentence("A RESULT has a VALUE for each ITEM.", AnswerEdgesTest::aValueForEachItem);
        CHECKS.sentence("If there is no GROUP, and no ITEM is COUNT or SUM, each MEETING is one.",
                AnswerEdgesTest::eachMeetingIsOne);
        CHECKS.sentence("Otherwise there is one for each VALUE of GROUP",
                AnswerEdgesTest::oneForEachValueOfGroup);
        CHECKS.sentence("that a MEETING has,", AnswerEdgesTest::thatAMeetingHas);
        CHECKS.sentence("the smallest first (without GROUP", AnswerEdgesTest::theSmallestFirst);
        CHECKS.sentence("(without GROUP there is one in any case):",
                AnswerEdgesTest::withoutGroupThereIsOneInAnyCase);
        CHECKS.sentence("COUNT is how many MEETINGS it has, SUM the sum of the COLUMN there,",
                AnswerEdgesTest::theGreatestAndTheLeastSum);
        CHECKS.sentence("a COLUMN that of its first MEETING (0 without any).",
                AnswerEdgesTest::aColumnThatOfItsFirstMeeting);
        CHECKS.sentence("With ORDER they are brought in order by that ITEM, the smallest first,",
                AnswerEdgesTest::inOrderByThatItem);
        CHECKS.sentence("in order by that ITEM, the smallest first,", AnswerEdgesTest::inOrderByGreatSums);
        CHECKS.sentence("those that are alike as they were;", AnswerEdgesTest::thoseAlikeAsTheyWere);
        CHECKS.sentence("with LIMIT there are no more than so many, the first ones.",
                AnswerEdgesTest::noMoreThanLimit);
        CHECKS.sentence("what would be (nothing is changed).", AnswerEdgesTest::nothingIsChanged);
    }

    private static void resultsAndResult() {
        CHECKS.under("Promise 23: results");
        CHECKS.sentence("Returns how many RESULTS it has in all.", AnswerEdgesTest::asTheTablesAreNow);
        CHECKS.sentence("how many RESULTS it has in all.", AnswerEdgesTest::whereverOneIs);
        CHECKS.sentence("how many RESULTS it has in all.", AnswerEdgesTest::noMoreThanLimit);

        CHECKS.under("Promise 24: result");
        CHECKS.sentence("`place`: the place of a RESULT, from 0", AnswerEdgesTest::eachPlaceAndItem);
        CHECKS.sentence("`item`: an ITEM", AnswerEdgesTest::eachPlaceAndItem);
        CHECKS.sentence("Returns its VALUE there.", AnswerEdgesTest::whicheverIsAskedFirst);
        CHECKS.sentence("Throws `IndexOutOfBoundsException` if there is no such RESULT, or ITEM",
                AnswerEdgesTest::noSuchResultOrItem);
    }

    private static void wouldDoAndMeetings() {
        CHECKS.under("Promise 25: wouldDo");
        CHECKS.sentence("`what`: 0 READS, 1 CHECKS", AnswerEdgesTest::whatOfWouldDo);
        CHECKS.sentence("Returns how many there would be, if one PULLED from the beginning till there was"
                + " no RESULT any more (with the PULL that finds none).",
                AnswerEdgesTest::withThePullThatFindsNone);
        CHECKS.sentence("if one PULLED from the beginning", AnswerEdgesTest::whereverOneIs);
        CHECKS.sentence("Throws `IllegalArgumentException` if what is neither",
                AnswerEdgesTest::whatOfWouldDo);

        CHECKS.under("Promise 26: meetingsWithout");
        CHECKS.sentence("`condition`: a CONDITION", AnswerEdgesTest::withoutIt);
        CHECKS.sentence("Returns how many MEETINGS there would be without it",
                AnswerEdgesTest::withoutThatOneAlone);
        CHECKS.sentence("how many MEETINGS there would be", AnswerEdgesTest::meetingsAreNotCutByLimit);
        CHECKS.sentence("(as if the PLAN was not EMPTY).", AnswerEdgesTest::asIfNotEmpty);
        CHECKS.sentence("Throws `IndexOutOfBoundsException` if there is no such CONDITION",
                AnswerEdgesTest::withoutIt);
    }

    private static void shareAndChecksum() {
        CHECKS.under("Promise 27: share");
        CHECKS.sentence("Returns how many MEETINGS there are,", AnswerEdgesTest::meetingsAreNotCutByLimit);
        CHECKS.sentence("of all that there would be without CONDITIONS, not cut;",
                AnswerEdgesTest::notCut);
        CHECKS.sentence("0 if that is 0.", AnswerEdgesTest::zeroIfThatIsZero);

        CHECKS.under("Promise 28: digest");
        CHECKS.sentence("Computes a checksum. A number d starts with 58086;", AnswerEdgesTest::ofNothing);
        CHECKS.sentence("for each of the following numbers x, d becomes d * 31 + x,"
                + " which wraps around as a 64-bit integer:", AnswerEdgesTest::itWrapsAround);
        CHECKS.sentence("Returns d.", AnswerEdgesTest::itWrapsAround);
    }

    private static void checksum() {
        CHECKS.sentence("many() of 0 to 4;", AnswerEdgesTest::manyOfEach);
        CHECKS.sentence("for each TABLE how many ROWS it has, all VALUES, ROW by ROW,"
                + " and variety() of each COLUMN;", AnswerEdgesTest::eachTableRowByRow);
        CHECKS.sentence("faultAt();", AnswerEdgesTest::ofNothing);
        CHECKS.sentence("if it is READ:", AnswerEdgesTest::ifItIsRead);
        CHECKS.sentence("isEmpty() (1 or 0),", AnswerEdgesTest::isEmptyIsOneOrZero);
        CHECKS.sentence("for each CONDITION condition() of 0 to 5,", AnswerEdgesTest::eachOfTheConditions);
        CHECKS.sentence("for each place of the ORDER order() and guess(),",
                AnswerEdgesTest::eachPlaceOfTheOrder);
        CHECKS.sentence("cost(), done() of 0 to 2,", AnswerEdgesTest::ifItIsRead);
        CHECKS.sentence("results(), the ITEMS of the first 10 RESULTS (or all),",
                AnswerEdgesTest::theFirstTenOrAll);
        CHECKS.sentence("wouldDo() of 0 and 1.", AnswerEdgesTest::ifItIsRead);
        CHECKS.sentence("if it is READ: isEmpty() (1 or 0), for each CONDITION condition() of 0 to 5,"
                + " for each place of the ORDER order() and guess(), cost(), done() of 0 to 2, results(),"
                + " the ITEMS of the first 10 RESULTS (or all), wouldDo() of 0 and 1.",
                AnswerEdgesTest::asTheCallsAnswer);
    }
}
