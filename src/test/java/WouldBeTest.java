/** Promises 23 to 28: results, result, wouldDo, meetingsWithout, share, digest. */
public final class WouldBeTest {
    private static final Class<IndexOutOfBoundsException> INDEX = IndexOutOfBoundsException.class;
    private static final Class<IllegalArgumentException> ARGUMENT = IllegalArgumentException.class;
    private static final Class<IllegalStateException> STATE = IllegalStateException.class;
    private static final int[] FAR = {Integer.MIN_VALUE, -1, Integer.MAX_VALUE};
    private static final Checks CHECKS = new Checks("WouldBeTest");

    private static void refused() {
        OrchardQuery q = Make.three();
        Make.write(q, 0, 100, 1, 20);
        CHECKS.refuses(q, "results()", STATE, q::results);
        CHECKS.refuses(q, "result()", STATE, () -> q.result(-1, -1));
        CHECKS.refuses(q, "wouldDo()", STATE, () -> q.wouldDo(-1));
        CHECKS.refuses(q, "meetingsWithout()", STATE, () -> q.meetingsWithout(-1));
        CHECKS.refuses(q, "share()", STATE, q::share);
        q.read();
        for (int far : FAR) {
            CHECKS.refuses(q, "result(" + far + ", 0)", INDEX, () -> q.result(far, 0));
            CHECKS.refuses(q, "result(0, " + far + ")", INDEX, () -> q.result(0, far));
            CHECKS.refuses(q, "wouldDo(" + far + ")", ARGUMENT, () -> q.wouldDo(far));
            CHECKS.refuses(q, "meetingsWithout(" + far + ")", INDEX, () -> q.meetingsWithout(far));
        }
        CHECKS.refuses(q, "result(3, 0)", INDEX, () -> q.result(3, 0));
        CHECKS.refuses(q, "result(0, 1)", INDEX, () -> q.result(0, 1));
        CHECKS.refuses(q, "wouldDo(2)", ARGUMENT, () -> q.wouldDo(2));
        CHECKS.refuses(q, "meetingsWithout(0)", INDEX, () -> q.meetingsWithout(0));
        Make.read(q, 0, 100, 1, 20, 2, 100, 9, 1001, 6, 1000);
        CHECKS.refuses(q, "result(0, 0) with LIMIT 0", INDEX, () -> q.result(0, 0));
        CHECKS.refuses(q, "meetingsWithout(1)", INDEX, () -> q.meetingsWithout(1));
    }

    private static void due(OrchardQuery q, String what, int items, int... values) {
        CHECKS.is(what + ": results()", q.results(), values.length / items);
        for (int i = 0; i < values.length; i++) {
            CHECKS.is(what + ": result(" + i / items + ", " + i % items + ")",
                    q.result(i / items, i % items), values[i]);
        }
        q.open();
        for (int i = 0; i < values.length; i++) {
            if (i % items == 0) {
                CHECKS.is(what + ": next()", q.next(), true);
            }
            CHECKS.is(what + ": value(" + i % items + ")", q.value(i % items), values[i]);
        }
        CHECKS.is(what + ": next() at the end", q.next(), false);
        CHECKS.is(what + ": wouldDo(0)", q.wouldDo(0), q.done(0));
        CHECKS.is(what + ": wouldDo(1)", q.wouldDo(1), q.done(1));
        int behind = values.length / items;
        CHECKS.refuses(q, what + ": a result behind", INDEX, () -> q.result(behind, 0));
        CHECKS.refuses(q, what + ": an item behind", INDEX, () -> q.result(0, items));
    }

    private static void plainResults() {
        OrchardQuery q = Make.three();
        Make.read(q, 0, 100, 112, 101, 1, 20, 21, 2, 100, 9, 110);
        due(q, "a join", 3, 1, 7, 10, 1, 8, 10, 2, 9, 20);
        q.swap(0, 1);
        due(q, "a join the other way", 3, 1, 7, 10, 1, 8, 10, 2, 9, 20);
        Make.read(q, 0, 100, 120, 1, 20, 21, 22, 2, 110, 9, 1004);
        due(q, "three seats", 2, 1, 5, 1, 6, 2, 5, 2, 6, 3, 5, 3, 6);
        q.swap(0, 2);
        due(q, "three seats, another order", 2, 1, 5, 2, 5, 3, 5, 1, 6, 2, 6, 3, 6);
        Make.read(q, 0, 120, 120, 1, 20, 21, 22, 2, 100, 11, 110, 3, 111, 10, 120);
        due(q, "LESS and IS NOT", 2, 6, 6, 6, 6, 6, 6, 6, 6);
        Make.read(q, 0, 100, 110, 1, 20, 20, 2, 101, 9, 111, 3, 100, 11, 110);
        due(q, "a table with itself", 2, 1, 3);
        Make.read(q, 0, 100, 1, 20, 2, 100, 9, 1009);
        due(q, "no meeting", 1);
        q.table(1);
        Make.read(q, 0, 100, 1, 23);
        due(q, "no rows", 1);
        CHECKS.is("share() of no rows", q.share(), 0.0);
        Make.read(q, 0, 100, 1, 20, 23);
        due(q, "no rows of the second", 1);
        CHECKS.is("the rows of the first are read", q.wouldDo(0), 3);
    }

    private static void groups() {
        OrchardQuery q = Make.three();
        Make.read(q, 0, 111, 7, 8, 110, 112, 1, 20, 21, 4, 111);
        due(q, "groups", 4, 5, 9, 21, 7, 6, 3, 3, 8);
        Make.read(q, 0, 111, 7, 8, 110, 112, 1, 20, 21, 4, 111, 5, 1001);
        due(q, "groups in order", 4, 6, 3, 3, 8, 5, 9, 21, 7);
        Make.read(q, 0, 111, 7, 8, 110, 112, 1, 20, 21, 4, 111, 5, 1001, 6, 1001);
        due(q, "groups in order, the first one", 4, 6, 3, 3, 8);
        Make.read(q, 0, 101, 100, 1, 20, 4, 101);
        due(q, "groups without COUNT", 2, 10, 1, 20, 2);
        Make.read(q, 0, 100, 100, 1, 20, 4, 100);
        due(q, "groups of one", 2, 1, 1, 2, 2, 3, 3);
        Make.read(q, 0, 8, 102, 7, 1, 21, 2, 102, 10, 1007, 4, 100);
        due(q, "groups by what is no item, one without meetings", 2, 8, 1, 9, 1);
        Make.read(q, 0, 7, 100, 1, 20, 2, 100, 9, 1009, 4, 100);
        due(q, "no group", 2);
        Make.read(q, 0, 7, 8, 100, 101, 1, 20, 2, 100, 9, 1009);
        due(q, "COUNT and SUM without meetings", 3, 0, 0, 0);
        Make.read(q, 0, 101, 7, 8, 100, 1, 20, 2, 100, 10, 1001);
        due(q, "COUNT and SUM without GROUP", 3, 20, 2, 5);
        Make.read(q, 0, 7, 1, 20, 5, 1000, 6, 1005);
        due(q, "COUNT with ORDER and LIMIT", 1, 3);
        Make.read(q, 0, 7, 1, 20, 6, 1000);
        due(q, "COUNT with LIMIT 0", 1);

        OrchardQuery n = new OrchardQuery();
        Make.table(n, new int[] {0, 1}, new int[] {999, 2}, new int[] {-999, 3}, new int[] {-1, 4},
                new int[] {999, 5}, new int[] {0, 6});
        Make.read(n, 0, 100, 8, 101, 101, 8, 100, 1, 20, 4, 100);
        due(n, "groups below 0", 4, -999, 3, 3, -999, -1, 4, 4, -1, 0, 7, 1, 0, 999, 7, 2, 1998);
        Make.read(n, 0, 100, 8, 101, 1, 20, 4, 100, 5, 1001);
        due(n, "groups alike stay as they were", 2, -999, 3, -1, 4, 0, 7, 999, 7);
        n.swap(0, 0);
        n.drop(0, 0);
        due(n, "groups with a row less", 2, -999, 3, -1, 4, 0, 6, 999, 7);
    }

    private static void orders() {
        OrchardQuery q = Make.three();
        Make.read(q, 0, 102, 100, 101, 1, 21, 5, 1000);
        due(q, "in order", 3, 7, 1, 5, 7, 4, 5, 8, 1, 6, 9, 2, 5);
        Make.read(q, 0, 100, 102, 1, 21, 5, 1000);
        due(q, "those alike stay", 2, 1, 7, 1, 8, 2, 9, 4, 7);
        Make.read(q, 0, 101, 110, 1, 20, 21, 5, 1000, 6, 1009);
        due(q, "with LIMIT", 2, 10, 1, 10, 1, 10, 2, 10, 4, 10, 1, 10, 1, 10, 2, 10, 4, 20, 1);
        Make.read(q, 0, 100, 1, 20, 6, 1002);
        due(q, "LIMIT alone", 1, 1, 2);
        CHECKS.is("reads with LIMIT", q.wouldDo(0), 2);
        Make.read(q, 0, 100, 1, 20, 6, 1003);
        due(q, "LIMIT as many as there are", 1, 1, 2, 3);
        Make.read(q, 0, 100, 1, 20, 5, 1000, 6, 1000);
        due(q, "LIMIT 0", 1);
        CHECKS.is("reads with LIMIT 0", q.wouldDo(0), 0);
        OrchardQuery n = new OrchardQuery();
        Make.table(n, new int[] {5, 1}, new int[] {-5, 2}, new int[] {0, 3}, new int[] {-5, 4});
        Make.read(n, 0, 101, 100, 1, 20, 5, 1001);
        due(n, "in order below 0", 2, 2, -5, 4, -5, 3, 0, 1, 5);
    }

    private static void full() {
        OrchardQuery q = new OrchardQuery();
        for (int t = 0; t < 3; t++) {
            q.table(3);
            for (int r = 0; r < 14; r++) {
                q.row(t, r, 999, -999);
            }
        }
        Make.read(q, 0, 100, 110, 120, 1, 20, 21, 22, 5, 1002);
        CHECKS.is("all results", q.results(), 2744);
        CHECKS.is("the last one", q.result(2743, 2), 13);
        CHECKS.is("the last of the first key", q.result(195, 2), 0);
        CHECKS.is("the last of the first key", q.result(195, 1), 13);
        CHECKS.is("the first of the second key", q.result(196, 2), 1);
        CHECKS.is("the first of the second key", q.result(196, 0), 0);
        CHECKS.is("reads", q.wouldDo(0), 14 + 196 + 2744);
        CHECKS.is("cost", q.cost(), 14 + 196 + 2744);
        Make.read(q, 0, 8, 101, 8, 112, 7, 1, 20, 21, 22);
        CHECKS.is("the greatest sum", q.result(0, 0), 2744 * 999);
        CHECKS.is("the least sum", q.result(0, 1), -2744 * 999);
        CHECKS.is("the greatest count", q.result(0, 2), 2744);
        Make.read(q, 0, 120, 8, 100, 1, 20, 21, 22, 4, 120);
        CHECKS.is("all groups", q.results(), 14);
        CHECKS.is("the last group", q.result(13, 0), 13);
        CHECKS.is("its sum", q.result(13, 1), 91 * 14);
        CHECKS.is("share()", q.share(), 1.0);
        Make.read(q, 0, 120, 1, 20, 21, 22, 2, 100, 11, 1014, 3, 110, 11, 1014, 3, 120, 11, 1014);
        CHECKS.is("checks", q.wouldDo(1), 3 * 2744);
        CHECKS.is("reads", q.wouldDo(0), 14 + 196 + 2744);
        q.rewrite(2);
        CHECKS.is("checks behind DOWN", q.wouldDo(1), 14 + 196 + 2744);
    }

    private static void meetings() {
        OrchardQuery q = Make.three();
        Make.read(q, 0, 100, 1, 20, 21, 2, 100, 9, 110, 3, 111, 9, 1005, 3, 101, 9, 1010, 6, 1001);
        CHECKS.is("without the first", q.meetingsWithout(0), 6);
        CHECKS.is("without the second", q.meetingsWithout(1), 2);
        CHECKS.is("without the third", q.meetingsWithout(2), 2);
        CHECKS.is("share()", q.share(), 1.0 / 12);
        CHECKS.is("results()", q.results(), 1);
        Make.read(q, 0, 100, 1, 20, 21, 2, 100, 11, 110, 6, 1000);
        CHECKS.is("without the only one, with LIMIT 0", q.meetingsWithout(0), 12);
        CHECKS.is("share() with LIMIT 0", q.share(), 4.0 / 12);
        Make.read(q, 0, 7, 1, 20, 21, 22, 2, 100, 9, 1001, 3, 100, 9, 1002, 4, 100, 6, 1001);
        CHECKS.is("share() before it is EMPTY", q.share(), 0.0);
        q.rewrite(3);
        CHECKS.is("without one of EMPTY", q.meetingsWithout(1), 8);
        CHECKS.is("share() of EMPTY", q.share(), 0.0);
        Make.read(q, 0, 100, 1, 20, 2, 100, 9, 1001, 3, 101, 10, 101);
        q.rewrite(3);
        CHECKS.is("without what makes it EMPTY", q.meetingsWithout(1), 1);
        Make.read(q, 0, 100, 1, 20, 2, 100, 10, 1002);
        CHECKS.is("share() not cut", q.share(), 2.0 / 3);
        Make.read(q, 0, 100, 1, 20);
        CHECKS.is("share() without conditions", q.share(), 1.0);
        Make.read(q, 0, 100, 1, 20, 2, 100, 9, 1001);
        CHECKS.is("share() before a drop", q.share(), 1.0 / 3);
        q.drop(0, 0);
        CHECKS.is("share() behind a drop", q.share(), 0.0);
    }

    private static void changesNothing() {
        OrchardQuery q = Make.three();
        Make.read(q, 0, 100, 1, 20, 21, 2, 100, 9, 110);
        q.open();
        q.next();
        long before = q.digest();
        q.results();
        q.result(1, 0);
        q.wouldDo(0);
        q.wouldDo(1);
        q.meetingsWithout(0);
        q.share();
        CHECKS.is("digest() behind what would be", q.digest(), before);
        CHECKS.is("done()", q.done(0), 2);
    }

    private static long sum(long... numbers) {
        long d = 58086;
        for (long x : numbers) {
            d = d * 31 + x;
        }
        return d;
    }

    private static void digest() {
        OrchardQuery q = new OrchardQuery();
        CHECKS.is("digest() of a new object", q.digest(), sum(0, 0, 0, 0, 0, -1));
        q.read();
        CHECKS.is("digest() with a fault", q.digest(), sum(0, 0, 0, 0, 0, 0));
        Make.table(q, new int[] {3, -4}, new int[] {3, 5});
        q.table(1);
        q.clear();
        CHECKS.is("digest() with tables", q.digest(),
                sum(2, 0, 0, 0, 0, 2, 3, -4, 3, 5, 1, 2, 0, 0, -1));
        Make.write(q, 0, 100, 101, 1, 20, 20, 2, 100, 9, 110);
        long[] head = {2, 10, 0, 0, 0, 2, 3, -4, 3, 5, 1, 2, 0, 0, -1};
        CHECKS.is("digest() unread", q.digest(), sum(head));
        q.read();
        q.swap(0, 1);
        q.open();
        q.next();
        CHECKS.is("digest() of a query that is read", q.digest(),
                sum(2, 10, 2, 2, 1, 2, 3, -4, 3, 5, 1, 2, 0, 0, -1,
                        0, 100, 9, 110, 1, 1, 1000, 1, 2, 0, 4, 6, 2, 1, 1,
                        4, 3, -4, 3, 5, 3, -4, 3, 5, 6, 4));
        Make.read(q, 0, 7, 1, 20, 2, 100, 10, 100);
        q.rewrite(3);
        CHECKS.is("digest() of EMPTY", q.digest(),
                sum(2, 8, 1, 1, 1, 2, 3, -4, 3, 5, 1, 2, 0, 0, -1,
                        1, 100, 10, 100, 0, 0, 0, 0, 0, 0, 0, 0, 0, 1, 0, 0, 0));
        OrchardQuery many = new OrchardQuery();
        many.table(1);
        for (int i = 0; i < 12; i++) {
            many.row(0, i, 0, 0);
        }
        Make.read(many, 0, 100, 1, 20);
        CHECKS.is("digest() of the first ten results", many.digest(),
                sum(1, 4, 1, 1, 0, 12, 0, 1, 2, 3, 4, 5, 6, 7, 8, 9, 10, 11, 12, -1,
                        0, 0, 12, 12, 0, 0, 0, 12, 0, 1, 2, 3, 4, 5, 6, 7, 8, 9, 12, 0));
    }

    public static void main(String[] args) {
        refused();
        plainResults();
        groups();
        orders();
        full();
        meetings();
        changesNothing();
        digest();
        CHECKS.end();
    }
}
