import java.util.function.Consumer;

/** The edges of PULLING: Term 5 and promises 19 to 22. */
public final class PullEdgesTest {
    private static final int LEAST = Integer.MIN_VALUE;
    private static final int MOST = Integer.MAX_VALUE;
    private static final Checks CHECKS = new Checks("PullEdgesTest");

    private static OrchardQuery three(String text) {
        return read(Make.three(), text);
    }

    private static OrchardQuery read(OrchardQuery q, String text) {
        CHECKS.is("read() of " + text, Make.read(q, text), 0);
        return q;
    }

    /** READS, CHECKS and RESULTS so far. */
    private static String done(OrchardQuery q) {
        return q.done(0) + " " + q.done(1) + " " + q.done(2);
    }

    /** Pulls to the end, and once more; tells what was done behind open() and behind each PULL. */
    private static String pulled(OrchardQuery q) {
        q.open();
        StringBuilder text = new StringBuilder(done(q));
        int more = 60;
        while (more > 0 && q.next()) {
            text.append(", ").append(done(q));
            more--;
        }
        text.append(", end ").append(done(q));
        text.append(q.next() ? ", and one more" : "").append(", ").append(done(q));
        return text.toString();
    }

    private static void pulls(OrchardQuery q, String due) {
        CHECKS.is("pulling", pulled(q), due);
        String end = due.substring(due.lastIndexOf(", ") + 2);
        CHECKS.is("wouldDo()", q.wouldDo(0) + " " + q.wouldDo(1) + " " + q.results(), end);
    }

    // ---- going through

    private static void eachRowThatIsLookedAtIsARead() {
        pulls(read(Make.sized(0), "SELECT 0.0 FROM T0"), "0 0 0, end 0 0 0, 0 0 0");
        pulls(read(Make.sized(1), "SELECT 0.0 FROM T0"), "0 0 0, 1 0 1, end 1 0 1, 1 0 1");
        pulls(read(Make.sized(2, 1), "SELECT 0.0 FROM T0 T1"),
                "0 0 0, 2 0 1, 4 0 2, end 4 0 2, 4 0 2");
        pulls(read(Make.sized(3, 0), "SELECT 0.0 FROM T0 T1"), "0 0 0, end 3 0 0, 3 0 0");
        pulls(read(Make.sized(0, 3), "SELECT 0.0 FROM T0 T1"), "0 0 0, end 0 0 0, 0 0 0");
        pulls(read(Make.sized(2, 2, 0), "SELECT 0.0 FROM T0 T1 T2"), "0 0 0, end 6 0 0, 6 0 0");
        pulls(read(Make.sized(2, 0, 2), "SELECT 0.0 FROM T0 T1 T2"), "0 0 0, end 2 0 0, 2 0 0");
        OrchardQuery full = read(Make.sized(14, 14, 14), "SELECT COUNT FROM T0 T1 T2");
        pulls(full, "0 0 0, 2954 0 1, end 2954 0 1, 2954 0 1");
    }

    private static void inTheOrder() {
        OrchardQuery q = read(Make.sized(2, 3), "SELECT 0.0 1.0 FROM T0 T1");
        CHECKS.is("results", Make.results(q), "0 0, 0 1, 0 2, 1 0, 1 1, 1 2");
        CHECKS.is("reads", q.wouldDo(0), 2 + 6);
        q.swap(0, 1);
        CHECKS.is("results", Make.results(q), "0 0, 1 0, 0 1, 1 1, 0 2, 1 2");
        CHECKS.is("reads", q.wouldDo(0), 3 + 6);
    }

    private static void forWhichAllConditionsOfTheLevelHold() {
        OrchardQuery q = three("SELECT 0.0 FROM T0 T1 WHERE 0.0 IS 2");
        CHECKS.is("reads and checks at first", q.wouldDo(0) * 100 + q.wouldDo(1), 1512);
        q.rewrite(2);
        CHECKS.is("reads and checks behind DOWN", q.wouldDo(0) * 100 + q.wouldDo(1), 703);
        OrchardQuery none = three("SELECT 0.0 FROM T0 T1 T2 WHERE 0.0 IS 9");
        none.rewrite(2);
        pulls(none, "0 0 0, end 3 3 0, 3 3 0");
        OrchardQuery later = three("SELECT 2.0 FROM T0 T1 T2 WHERE 0.0 IS 1 AND 1.0 IS 1 AND 2.0 IS 6");
        later.rewrite(2);
        pulls(later, "0 0 0, 4 4 1, 7 7 2, end 11 11 2, 11 11 2");
    }

    /** The third SEAT is gone through for what holds up to the second one, alone. */
    private static void andSoOn() {
        OrchardQuery q = three("SELECT 0.0 1.0 2.0 FROM T2 T0 T1 WHERE 0.0 ISNOT 5 AND 1.0 LESS 3"
                + " AND 2.2 IS 7");
        CHECKS.is("reads and checks at first", q.wouldDo(0) + " " + q.wouldDo(1), "32 44");
        q.rewrite(2);
        CHECKS.is("results", Make.results(q), "6 1 1, 6 1 4, 6 2 1, 6 2 4");
        // 2 of the first, 3 of the second for one of them, 4 of the third for two of these
        pulls(q, "0 0 0, 4 4 1, 7 7 2, 9 9 3, 12 12 4, end 13 13 4, 13 13 4");
        q.swap(1, 2);
        q.rewrite(2);
        // 4 of the second, then 3 of the third for two of these
        CHECKS.is("reads and checks the other way", q.wouldDo(0) + " " + q.wouldDo(1), "12 12");
    }

    private static void upToTheFirstThatDoesNotHold() {
        pulls(three("SELECT 0.0 FROM T0 WHERE 0.0 IS 9 AND 0.0 ISNOT 9"), "0 0 0, end 3 3 0, 3 3 0");
        pulls(three("SELECT 0.0 FROM T0 WHERE 0.0 ISNOT 9 AND 0.0 IS 9"), "0 0 0, end 3 6 0, 3 6 0");
        pulls(three("SELECT 0.0 FROM T0 WHERE 0.0 ISNOT 1 AND 0.0 ISNOT 2 AND 0.0 LESS 3"),
                "0 0 0, end 3 6 0, 3 6 0");
        pulls(three("SELECT 0.0 FROM T0 WHERE 0.0 IS 0.0 AND 0.0 IS 0.0 AND 0.0 IS 0.0 AND 0.0 IS 0.0"
                + " AND 0.0 IS 0.0 AND 0.0 LESS 2"), "0 0 0, 1 6 1, end 3 18 1, 3 18 1");
    }

    /** TABLE 0 with five VALUES, TABLE 1 with a 0. */
    private static OrchardQuery fiveAndZero() {
        OrchardQuery q = Make.tables(1, 1);
        for (int v : new int[] {-999, -1, 0, 1, 999}) {
            q.row(0, v, 0, 0);
        }
        q.row(1, 0, 0, 0);
        return q;
    }

    private static void whatHolds() {
        String[][] dues = {{"0.0 IS 0", "0"}, {"0.0 IS 1", "1"}, {"0.0 IS 999", "999"},
            {"0.0 ISNOT 0", "-999, -1, 1, 999"}, {"0.0 LESS 0", "-999, -1"},
            {"0.0 LESS 1", "-999, -1, 0"}, {"0.0 LESS 999", "-999, -1, 0, 1"},
            {"0.0 LESS 1.0", "-999, -1"}, {"1.0 LESS 0.0", "1, 999"}, {"0.0 IS 1.0", "0"},
            {"1.0 ISNOT 0.0", "-999, -1, 1, 999"}, {"0.0 LESS 0.0", ""},
            {"0.0 IS 0.0", "-999, -1, 0, 1, 999"}, {"0.0 ISNOT 0.0", ""}};
        for (String[] due : dues) {
            OrchardQuery q = read(fiveAndZero(), "SELECT 0.0 FROM T0 T1 WHERE " + due[0]);
            CHECKS.is(due[0], Make.results(q), due[1]);
        }
    }

    private static void withEmptyThereAreNoReads() {
        OrchardQuery q = three("SELECT 0.0 FROM T0 T1 WHERE 0.0 IS 1 AND 0.0 IS 2");
        pulls(q, "0 0 0, end 15 16 0, 15 16 0");
        q.rewrite(3);
        pulls(q, "0 0 0, end 0 0 0, 0 0 0");
        OrchardQuery count = three("SELECT COUNT 0.0 SUM 0.1 FROM T0 T1 WHERE 0.0 LESS 0.0 ORDER 0");
        count.rewrite(3);
        pulls(count, "0 0 0, 0 0 1, end 0 0 1, 0 0 1");
        OrchardQuery group = three("SELECT COUNT FROM T0 WHERE 0.0 LESS 0.0 GROUP 0.0");
        pulls(group, "0 0 0, end 3 3 0, 3 3 0");
        group.rewrite(3);
        pulls(group, "0 0 0, end 0 0 0, 0 0 0");
    }

    // ---- only as far as is needed

    private static void upToTheMeetingOfTheResult() {
        pulls(three("SELECT 0.0 FROM T0 WHERE 0.0 ISNOT 2"), "0 0 0, 1 1 1, 3 3 2, end 3 3 2, 3 3 2");
        pulls(three("SELECT 0.0 FROM T0 WHERE 0.0 IS 1"), "0 0 0, 1 1 1, end 3 3 1, 3 3 1");
        pulls(three("SELECT 0.0 FROM T0 T2 WHERE 0.0 IS 2 AND 1.0 IS 6"),
                "0 0 0, 6 6 1, end 9 8 1, 9 8 1");
    }

    private static void allAtTheFirstPull() {
        pulls(three("SELECT 0.0 FROM T0 GROUP 0.0"), "0 0 0, 3 0 1, 3 0 2, 3 0 3, end 3 0 3, 3 0 3");
        pulls(three("SELECT 0.0 FROM T0 ORDER 0"), "0 0 0, 3 0 1, 3 0 2, 3 0 3, end 3 0 3, 3 0 3");
        pulls(three("SELECT COUNT FROM T0"), "0 0 0, 3 0 1, end 3 0 1, 3 0 1");
        pulls(three("SELECT SUM 0.0 FROM T0"), "0 0 0, 3 0 1, end 3 0 1, 3 0 1");
        pulls(three("SELECT 0.0 0.1 0.0 COUNT FROM T0"), "0 0 0, 3 0 1, end 3 0 1, 3 0 1");
        pulls(three("SELECT 0.0 0.1 0.0 SUM 0.0 FROM T0"), "0 0 0, 3 0 1, end 3 0 1, 3 0 1");
        pulls(three("SELECT 0.0 FROM T0 ORDER 0 LIMIT 1"), "0 0 0, 3 0 1, end 3 0 1, 3 0 1");
        pulls(three("SELECT 0.0 FROM T0 GROUP 0.0 LIMIT 1"), "0 0 0, 3 0 1, end 3 0 1, 3 0 1");
        pulls(three("SELECT COUNT FROM T0 LIMIT 1"), "0 0 0, 3 0 1, end 3 0 1, 3 0 1");
        pulls(three("SELECT 0.0 FROM T0 WHERE 0.0 IS 9 ORDER 0"), "0 0 0, end 3 3 0, 3 3 0");
        pulls(three("SELECT 0.0 FROM T0 WHERE 0.0 IS 9 GROUP 0.0"), "0 0 0, end 3 3 0, 3 3 0");
        pulls(three("SELECT COUNT FROM T0 WHERE 0.0 IS 9"), "0 0 0, 3 3 1, end 3 3 1, 3 3 1");
    }

    private static void behindAsManyAsLimit() {
        pulls(three("SELECT 0.0 FROM T0 LIMIT 1"), "0 0 0, 1 0 1, end 1 0 1, 1 0 1");
        pulls(three("SELECT 0.0 FROM T0 LIMIT 2"), "0 0 0, 1 0 1, 2 0 2, end 2 0 2, 2 0 2");
        pulls(three("SELECT 0.0 FROM T0 LIMIT 3"), "0 0 0, 1 0 1, 2 0 2, 3 0 3, end 3 0 3, 3 0 3");
        pulls(three("SELECT 0.0 FROM T0 WHERE 0.0 LESS 3 LIMIT 2"),
                "0 0 0, 1 1 1, 2 2 2, end 2 2 2, 2 2 2");
        pulls(three("SELECT 0.0 FROM T0 WHERE 0.0 LESS 3 LIMIT 3"),
                "0 0 0, 1 1 1, 2 2 2, end 3 3 2, 3 3 2");
        pulls(three("SELECT 0.0 FROM T0 WHERE 0.0 LESS 3 LIMIT 999"),
                "0 0 0, 1 1 1, 2 2 2, end 3 3 2, 3 3 2");
        pulls(three("SELECT 0.0 FROM T0 T1 T2 LIMIT 2"), "0 0 0, 3 0 1, 4 0 2, end 4 0 2, 4 0 2");
        String full = "SELECT 0.0 FROM T0 T1 T2 LIMIT ";
        // 14 of the third for each of 71 of the second, and 5 for one more; 14 of these for one of the first
        CHECKS.is("reads of 999", read(Make.sized(14, 14, 14), full + 999).wouldDo(0), 6 + 72 + 999);
        CHECKS.is("reads of 998", read(Make.sized(14, 14, 14), full + 998).wouldDo(0), 6 + 72 + 998);
        CHECKS.is("reads of 15", read(Make.sized(14, 14, 14), full + 15).wouldDo(0), 1 + 2 + 15);
        CHECKS.is("reads of 14", read(Make.sized(14, 14, 14), full + 14).wouldDo(0), 1 + 1 + 14);
    }

    private static void withLimitZeroNothingAtAll() {
        for (String text : new String[] {"SELECT 0.0 FROM T0", "SELECT COUNT FROM T0",
            "SELECT SUM 0.0 FROM T0 WHERE 0.0 IS 1", "SELECT 0.0 FROM T0 T1 WHERE 0.0 IS 1.0 GROUP 0.1",
            "SELECT 0.0 FROM T0 T1 T2 ORDER 0", "SELECT 0.0 COUNT FROM T0 GROUP 0.0 ORDER 1"}) {
            OrchardQuery q = three(text + " LIMIT 0");
            pulls(q, "0 0 0, end 0 0 0, 0 0 0");
            CHECKS.badState(q, "value() with LIMIT 0", () -> q.value(0));
            CHECKS.is("results()", q.results(), 0);
        }
    }

    // ---- Promise 19: open

    private static void howManyItems() {
        String[] items = {"0.0", "0.0 COUNT", "COUNT SUM 0.0 0.1", "SUM 0.0 SUM 0.0 SUM 0.0 SUM 0.0"};
        for (int n = 1; n <= 4; n++) {
            OrchardQuery q = three("SELECT " + items[n - 1] + " FROM T0 T1");
            CHECKS.is("open()", q.open(), n);
            CHECKS.is("done", done(q), "0 0 0");
            CHECKS.is("next()", q.next(), true);
            for (int item : new int[] {LEAST, -1, n, n + 1, 4, MOST}) {
                CHECKS.noIndex(q, "value(" + item + ")", () -> q.value(item));
            }
            q.value(n - 1);
        }
    }

    private static void anewIfItDid() {
        OrchardQuery q = three("SELECT 0.0 FROM T0 WHERE 0.0 ISNOT 1");
        q.open();
        q.next();
        q.next();
        CHECKS.is("done", done(q), "3 3 2");
        CHECKS.is("open() anew", q.open(), 1);
        CHECKS.is("done anew", done(q), "0 0 0");
        CHECKS.badState(q, "value() anew", () -> q.value(0));
        CHECKS.is("next() anew", q.next(), true);
        CHECKS.is("value() anew", q.value(0), 2);
        CHECKS.is("done anew", done(q), "2 2 1");
        q.next();
        q.next();
        CHECKS.is("at the end", q.next(), false);
        q.open();
        CHECKS.is("open() behind the end", q.next(), true);
        CHECKS.is("its value", q.value(0), 2);
        q.open();
        q.open();
        CHECKS.is("open() twice", done(q), "0 0 0");
        CHECKS.is("and a pull", q.next(), true);
    }

    // ---- Promise 20: next

    private static void itWasNotBegun() {
        OrchardQuery q = three("SELECT 0.0 FROM T0");
        CHECKS.badState(q, "next() not begun", q::next);
        q.results();
        q.result(0, 0);
        q.wouldDo(0);
        CHECKS.badState(q, "next() behind what would be", q::next);
        CHECKS.is("done", done(q), "0 0 0");
        q.open();
        CHECKS.is("next() behind open()", q.next(), true);
    }

    private static void over(String call, Consumer<OrchardQuery> ender, boolean staysRead) {
        for (int pulls = 0; pulls <= 4; pulls++) {
            OrchardQuery q = Make.three();
            q.table(1);
            q.row(3, 5, 0, 0);
            read(q, "SELECT 0.0 FROM T0");
            q.open();
            for (int i = 0; i < pulls; i++) {
                CHECKS.is("next() before " + call, q.next(), i < 3);
            }
            ender.accept(q);
            CHECKS.badState(q, "next() behind " + call, q::next);
            CHECKS.badState(q, "value(0) behind " + call, () -> q.value(0));
            CHECKS.badState(q, "value(9) behind " + call, () -> q.value(9));
            if (staysRead) {
                CHECKS.is("done behind " + call, done(q), "0 0 0");
                CHECKS.badArgument(q, "done(3) behind " + call, () -> q.done(3));
                CHECKS.is("open() behind " + call, q.open(), 1);
                CHECKS.is("next() behind that", q.next(), true);
            } else {
                CHECKS.badState(q, "done(0) behind " + call, () -> q.done(0));
                CHECKS.badState(q, "open() behind " + call, q::open);
            }
        }
    }

    private static void whatEndsIt() {
        over("token()", q -> q.token(6), false);
        over("clear()", OrchardQuery::clear, false);
        over("read()", OrchardQuery::read, true);
        over("read() with a fault", q -> {
            q.token(0);
            q.read();
        }, false);
        for (int rule = 0; rule <= 3; rule++) {
            int r = rule;
            over("rewrite(" + rule + ")", q -> q.rewrite(r), true);
        }
        over("swap()", q -> q.swap(0, 0), true);
        over("best()", OrchardQuery::best, true);
        over("row()", q -> q.row(0, 9, 9, 9), true);
        over("row() of another table", q -> q.row(1, 9, 9, 9), true);
        over("drop()", q -> q.drop(0, 2), true);
        over("drop() of another table", q -> q.drop(3, 0), true);
    }

    private static void orIsOverBeforeItWasBegun() {
        OrchardQuery q = three("SELECT 0.0 FROM T0");
        q.open();
        q.next();
        q.row(2, 1, 0, 0);
        q.drop(2, 2);
        CHECKS.badState(q, "next() as all is as it was", q::next);
        CHECKS.is("done", done(q), "0 0 0");
        q.clear();
        Make.read(q, "SELECT 0.0 FROM T0");
        CHECKS.badState(q, "next() as it is READ again", q::next);
    }

    private static void notIfTheyThrow() {
        OrchardQuery q = Make.sized(3, 14);
        read(q, "SELECT 0.0 FROM T0");
        q.open();
        CHECKS.is("next()", q.next(), true);
        CHECKS.badArgument(q, "token(12)", () -> q.token(12));
        CHECKS.badArgument(q, "rewrite(4)", () -> q.rewrite(4));
        CHECKS.noIndex(q, "swap(0, 1)", () -> q.swap(0, 1));
        CHECKS.noIndex(q, "row(2, ..)", () -> q.row(2, 0, 0, 0));
        CHECKS.badArgument(q, "row(.., 1000)", () -> q.row(0, 0, 0, 1000));
        CHECKS.badState(q, "row() of a full table", () -> q.row(1, 0, 0, 0));
        CHECKS.noIndex(q, "drop(2, 0)", () -> q.drop(2, 0));
        CHECKS.noIndex(q, "drop(0, 3)", () -> q.drop(0, 3));
        CHECKS.is("done", done(q), "1 0 1");
        CHECKS.is("value()", q.value(0), 0);
        CHECKS.is("next()", q.next(), true);
        CHECKS.is("value()", q.value(0), 1);
        CHECKS.is("done", done(q), "2 0 2");
    }

    private static void whatDoesNotEndIt() {
        OrchardQuery q = three("SELECT 0.0 FROM T0 WHERE 0.0 ISNOT 2");
        q.open();
        q.next();
        q.table(2);
        q.variety(0, 0);
        q.faultAt();
        q.many(1);
        q.condition(0, 5);
        q.order(0);
        q.guess(0);
        q.cost();
        q.isEmpty();
        q.done(0);
        q.results();
        q.result(0, 0);
        q.wouldDo(0);
        q.meetingsWithout(0);
        q.share();
        q.digest();
        CHECKS.is("done", done(q), "1 1 1");
        CHECKS.is("value()", q.value(0), 1);
        CHECKS.is("next()", q.next(), true);
        CHECKS.is("value()", q.value(0), 3);
        CHECKS.is("done", done(q), "3 3 2");
    }

    private static void notOverAsThereIsNoResult() {
        OrchardQuery q = three("SELECT 0.0 0.1 FROM T0");
        q.open();
        for (int i = 1; i <= 3; i++) {
            CHECKS.is("next()", q.next(), true);
            CHECKS.is("value()", q.value(0), i);
        }
        for (int i = 0; i < 3; i++) {
            CHECKS.is("next() behind the last", q.next(), false);
            CHECKS.is("value() of the last one", q.value(0) * 100 + q.value(1), 310);
            CHECKS.is("done", done(q), "3 0 3");
            CHECKS.noIndex(q, "value(2)", () -> q.value(2));
        }
        OrchardQuery limited = three("SELECT 0.0 FROM T0 LIMIT 2");
        limited.open();
        limited.next();
        limited.next();
        CHECKS.is("next() behind LIMIT", limited.next(), false);
        CHECKS.is("value() of the last one", limited.value(0), 2);
        OrchardQuery grouped = three("SELECT 0.1 FROM T0 GROUP 0.1");
        grouped.open();
        grouped.next();
        grouped.next();
        CHECKS.is("next() behind all groups", grouped.next(), false);
        CHECKS.is("value() of the last one", grouped.value(0), 20);
    }

    private static void eachResultInItsTurn() {
        String[] texts = {"SELECT 0.0 FROM T0", "SELECT 0.0 FROM T0 T1 WHERE 0.0 IS 1.0",
            "SELECT 0.0 FROM T0 ORDER 0 LIMIT 2", "SELECT 0.1 FROM T0 GROUP 0.1", "SELECT COUNT FROM T1",
            "SELECT 0.0 FROM T0 WHERE 0.0 LESS 0", "SELECT COUNT FROM T0 WHERE 0.0 LESS 0",
            "SELECT 0.0 FROM T0 LIMIT 0"};
        int[][] dues = {{1, 2, 3}, {1, 1, 2}, {1, 2}, {10, 20}, {4}, {}, {0}, {}};
        for (int i = 0; i < texts.length; i++) {
            OrchardQuery q = three(texts[i]);
            q.open();
            for (int due : dues[i]) {
                CHECKS.is("next() of " + texts[i], q.next(), true);
                CHECKS.is("value(0) of " + texts[i], q.value(0), due);
            }
            CHECKS.is("next() at the end of " + texts[i], q.next(), false);
            CHECKS.is("done(2) of " + texts[i], q.done(2), dues[i].length);
        }
    }

    // ---- Promise 21: value

    private static void noneWasPulled() {
        OrchardQuery q = three("SELECT 0.0 FROM T0 WHERE 0.0 IS 9");
        CHECKS.badState(q, "value() not begun", () -> q.value(0));
        CHECKS.badState(q, "value(-1) not begun", () -> q.value(-1));
        q.open();
        CHECKS.badState(q, "value() before next()", () -> q.value(0));
        CHECKS.badState(q, "value(1) before next()", () -> q.value(1));
        CHECKS.is("next()", q.next(), false);
        CHECKS.badState(q, "value() without a result", () -> q.value(0));
        for (int item : new int[] {LEAST, -1, 1, MOST}) {
            CHECKS.badState(q, "value(" + item + ") without a result", () -> q.value(item));
        }
        CHECKS.is("next() again", q.next(), false);
        CHECKS.badState(q, "value() without a result", () -> q.value(0));
    }

    private static void valueOfTheLastPulled() {
        OrchardQuery q = three("SELECT 0.0 0.1 1.2 COUNT FROM T0 T1 WHERE 0.0 IS 1.0 GROUP 1.2 ORDER 2");
        q.open();
        StringBuilder text = new StringBuilder();
        for (int i = 0; i < 3; i++) {
            q.next();
            for (int item = 0; item < 4; item++) {
                text.append(q.value(item)).append(' ');
            }
        }
        CHECKS.is("values", text.toString(), "1 10 7 1 1 10 8 1 2 20 9 1 ");
        CHECKS.is("value() again", q.value(2), 9);
        CHECKS.is("the last item", q.value(3), 1);
    }

    // ---- Promise 22: done

    private static void whatOfDone() {
        OrchardQuery q = three("SELECT 0.0 FROM T0 WHERE 0.0 ISNOT 1 AND 0.0 IS 2");
        for (int turn = 0; turn < 3; turn++) {
            for (int what : new int[] {LEAST, -1, 3, 4, MOST}) {
                CHECKS.badArgument(q, "done(" + what + ")", () -> q.done(what));
            }
            if (turn == 0) {
                q.open();
            }
            q.next();
        }
        CHECKS.is("done", done(q), "3 5 1");
    }

    private static void zeroIfNotBegun() {
        OrchardQuery q = three("SELECT 0.0 FROM T0 WHERE 0.0 ISNOT 1");
        CHECKS.is("not begun", done(q), "0 0 0");
        q.wouldDo(0);
        q.results();
        q.meetingsWithout(0);
        q.share();
        CHECKS.is("behind what would be", done(q), "0 0 0");
        q.open();
        CHECKS.is("behind open()", done(q), "0 0 0");
        q.next();
        CHECKS.is("behind next()", done(q), "2 2 1");
        q.best();
        CHECKS.is("it is over", done(q), "0 0 0");
    }

    public static void main(String[] args) {
        CHECKS.under("Terms");
        goingThrough();
        beginAndEnd();
        asFarAsNeeded();
        openAndNext();
        valueAndDone();
        CHECKS.end();
    }

    private static void goingThrough() {
        CHECKS.sentence("5 PULLING. To go through a QUERY is to go through the ROWS of the first SEAT"
                + " in the ORDER, in order;", PullEdgesTest::inTheOrder);
        CHECKS.sentence("for each one of them for which all CONDITIONS of the LEVEL 0 hold,"
                + " through those of the second SEAT,", PullEdgesTest::forWhichAllConditionsOfTheLevelHold);
        CHECKS.sentence("and so on;", PullEdgesTest::andSoOn);
        CHECKS.sentence("each ROW of a TABLE that is looked at is a READ,",
                PullEdgesTest::eachRowThatIsLookedAtIsARead);
        CHECKS.sentence("each CONDITION that is asked (by numbers, up to the first one that does not hold)"
                + " a CHECK.", PullEdgesTest::upToTheFirstThatDoesNotHold);
        CHECKS.sentence("What holds up to the last LEVEL is a MEETING.", PullEdgesTest::whatHolds);
        CHECKS.sentence("With EMPTY there are no READS.", PullEdgesTest::withEmptyThereAreNoReads);
    }

    private static void beginAndEnd() {
        CHECKS.sentence("What is PULLED begins with open().", PullEdgesTest::itWasNotBegun);
        CHECKS.sentence("It is over, and there are no READS, CHECKS and RESULTS of it any more,",
                PullEdgesTest::whatDoesNotEndIt);
        CHECKS.sentence("behind token(), clear(), read(), rewrite(), swap(), best(), row() and drop(),",
                PullEdgesTest::whatEndsIt);
        CHECKS.sentence("of whatever TABLE, also if nothing becomes another one by that",
                PullEdgesTest::orIsOverBeforeItWasBegun);
        CHECKS.sentence("(not if they throw).", PullEdgesTest::notIfTheyThrow);
        CHECKS.sentence("It is not over as there is no RESULT any more: next() tells so again then,"
                + " and value() that of the last one.", PullEdgesTest::notOverAsThereIsNoResult);
    }

    private static void asFarAsNeeded() {
        CHECKS.sentence("As one PULLS, READS and CHECKS are done only as far as they are needed:"
                + " up to the MEETING of the RESULT;", PullEdgesTest::upToTheMeetingOfTheResult);
        CHECKS.sentence("with GROUP, COUNT, SUM or ORDER all at the first PULL.",
                PullEdgesTest::allAtTheFirstPull);
        CHECKS.sentence("Behind as many RESULTS as LIMIT has nothing is READ any more;",
                PullEdgesTest::behindAsManyAsLimit);
        CHECKS.sentence("with LIMIT 0 nothing at all.", PullEdgesTest::withLimitZeroNothingAtAll);
    }

    private static void openAndNext() {
        CHECKS.under("Promise 19: open");
        CHECKS.sentence("Begins to PULL, anew if it did: no READS, CHECKS, or RESULTS were done.",
                PullEdgesTest::anewIfItDid);
        CHECKS.sentence("Returns how many ITEMS a RESULT has.", PullEdgesTest::howManyItems);

        CHECKS.under("Promise 20: next");
        CHECKS.sentence("PULLS the next RESULT.", PullEdgesTest::eachResultInItsTurn);
        CHECKS.sentence("Returns whether there was one.", PullEdgesTest::eachResultInItsTurn);
        CHECKS.sentence("or it was not begun,", PullEdgesTest::itWasNotBegun);
        CHECKS.sentence("or is over", PullEdgesTest::whatEndsIt);
    }

    private static void valueAndDone() {
        CHECKS.under("Promise 21: value");
        CHECKS.sentence("`item`: an ITEM", PullEdgesTest::valueOfTheLastPulled);
        CHECKS.sentence("Returns its VALUE in the RESULT that was PULLED last.",
                PullEdgesTest::valueOfTheLastPulled);
        CHECKS.sentence("none was PULLED since open(),", PullEdgesTest::noneWasPulled);
        CHECKS.sentence("or it is over", PullEdgesTest::whatEndsIt);
        CHECKS.sentence("Throws `IndexOutOfBoundsException` if there is no such ITEM",
                PullEdgesTest::howManyItems);

        CHECKS.under("Promise 22: done");
        CHECKS.sentence("`what`: 0 READS since open(), 1 CHECKS, 2 RESULTS that were PULLED",
                PullEdgesTest::upToTheMeetingOfTheResult);
        CHECKS.sentence("Returns how many there were (0, if it was not begun, or is over).",
                PullEdgesTest::zeroIfNotBegun);
        CHECKS.sentence("Throws `IllegalArgumentException` if what is not 0 to 2",
                PullEdgesTest::whatOfDone);
    }
}
