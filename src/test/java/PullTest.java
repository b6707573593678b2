/** Promises 19 to 22: open, next, value, done. */
public final class PullTest {
    private static final Class<IndexOutOfBoundsException> INDEX = IndexOutOfBoundsException.class;
    private static final Class<IllegalArgumentException> ARGUMENT = IllegalArgumentException.class;
    private static final Class<IllegalStateException> STATE = IllegalStateException.class;
    private static final Checks CHECKS = new Checks("PullTest");

    private static void done(OrchardQuery q, String when, int reads, int checks, int results) {
        CHECKS.is(when + ": reads", q.done(0), reads);
        CHECKS.is(when + ": checks", q.done(1), checks);
        CHECKS.is(when + ": results", q.done(2), results);
    }

    private static void pulls(OrchardQuery q, int value, int reads, int checks, int results) {
        String when = "the result " + results;
        CHECKS.is(when, q.next(), true);
        CHECKS.is(when + ": value", q.value(0), value);
        done(q, when, reads, checks, results);
    }

    private static void ends(OrchardQuery q, int reads, int checks, int results) {
        for (int i = 0; i < 2; i++) {
            CHECKS.is("behind the last one", q.next(), false);
            done(q, "behind the last one", reads, checks, results);
        }
    }

    private static void refused() {
        OrchardQuery q = Make.three();
        Make.write(q, 0, 100, 1, 20);
        CHECKS.refuses(q, "open() unread", STATE, q::open);
        CHECKS.refuses(q, "next() unread", STATE, q::next);
        CHECKS.refuses(q, "value() unread", STATE, () -> q.value(-1));
        CHECKS.refuses(q, "done() unread", STATE, () -> q.done(-1));
        q.read();
        CHECKS.refuses(q, "next() not begun", STATE, q::next);
        CHECKS.refuses(q, "value() not begun", STATE, () -> q.value(-1));
        CHECKS.refuses(q, "done(-1) not begun", ARGUMENT, () -> q.done(-1));
        CHECKS.refuses(q, "done(3) not begun", ARGUMENT, () -> q.done(3));
        done(q, "not begun", 0, 0, 0);
        CHECKS.is("open()", q.open(), 1);
        done(q, "at the beginning", 0, 0, 0);
        CHECKS.refuses(q, "value() of none", STATE, () -> q.value(0));
        CHECKS.refuses(q, "value(1) of none", STATE, () -> q.value(1));
        q.next();
        for (int item : new int[] {-1, 1, Integer.MIN_VALUE, Integer.MAX_VALUE}) {
            CHECKS.refuses(q, "value(" + item + ")", INDEX, () -> q.value(item));
        }
        for (int what : new int[] {-1, 3, Integer.MIN_VALUE, Integer.MAX_VALUE}) {
            CHECKS.refuses(q, "done(" + what + ")", ARGUMENT, () -> q.done(what));
        }
        done(q, "behind all that", 1, 0, 1);
        CHECKS.is("value() behind all that", q.value(0), 1);
    }

    private static void oneByOne() {
        OrchardQuery q = Make.three();
        Make.read(q, 0, 100, 110, 111, 1, 20, 21, 2, 100, 9, 110, 3, 111, 9, 1005);
        CHECKS.is("items", q.open(), 3);
        pulls(q, 1, 2, 2, 1);
        pulls(q, 2, 9, 10, 2);
        CHECKS.is("the second item", q.value(1), 2);
        CHECKS.is("the third item", q.value(2), 5);
        ends(q, 15, 15, 2);
        CHECKS.is("the value stays", q.value(1), 2);
        CHECKS.is("open() anew", q.open(), 3);
        done(q, "anew", 0, 0, 0);
        CHECKS.refuses(q, "value() anew", STATE, () -> q.value(0));
        pulls(q, 1, 2, 2, 1);
        q.open();
        pulls(q, 1, 2, 2, 1);

        q.rewrite(2);
        q.swap(0, 1);
        q.rewrite(2);
        q.open();
        pulls(q, 1, 2, 2, 1);
        pulls(q, 2, 8, 8, 2);
        ends(q, 13, 13, 2);
    }

    private static void checksStop() {
        OrchardQuery q = Make.three();
        Make.read(q, 0, 100, 1, 20, 2, 100, 10, 1001, 3, 101, 9, 1010, 3, 100, 11, 1009);
        q.open();
        pulls(q, 3, 3, 6, 1);
        ends(q, 3, 6, 1);
        Make.read(q, 0, 101, 1, 20, 2, 101, 11, 1020);
        q.open();
        pulls(q, 10, 1, 1, 1);
        pulls(q, 10, 3, 3, 2);
        ends(q, 3, 3, 2);
        Make.read(q, 0, 101, 1, 20, 2, 100, 11, 101, 3, 101, 10, 100);
        q.open();
        pulls(q, 10, 1, 2, 1);
        pulls(q, 20, 2, 4, 2);
        pulls(q, 10, 3, 6, 3);
        ends(q, 3, 6, 3);
    }

    private static void limit() {
        OrchardQuery q = Make.three();
        Make.read(q, 0, 120, 1, 20, 21, 22, 6, 1003);
        q.open();
        pulls(q, 5, 3, 0, 1);
        pulls(q, 6, 4, 0, 2);
        pulls(q, 5, 6, 0, 3);
        ends(q, 6, 0, 3);
        Make.read(q, 0, 100, 1, 20, 6, 1000);
        q.open();
        ends(q, 0, 0, 0);
        CHECKS.refuses(q, "value() with LIMIT 0", STATE, () -> q.value(0));
        for (int item : new int[] {7, 100}) {
            Make.read(q, 0, item, 1, 20, 4, 101, 5, 1000, 6, 1000);
            q.open();
            ends(q, 0, 0, 0);
        }
        Make.read(q, 0, 100, 1, 20, 6, 1003);
        q.open();
        pulls(q, 1, 1, 0, 1);
        pulls(q, 2, 2, 0, 2);
        pulls(q, 3, 3, 0, 3);
        ends(q, 3, 0, 3);
        Make.read(q, 0, 100, 1, 20, 2, 100, 10, 1003, 6, 1999);
        q.open();
        pulls(q, 1, 1, 1, 1);
        pulls(q, 2, 2, 2, 2);
        ends(q, 3, 3, 2);
    }

    private static void allAtFirst() {
        OrchardQuery q = Make.three();
        Make.read(q, 0, 101, 1, 20, 5, 1000);
        q.open();
        done(q, "before the first", 0, 0, 0);
        pulls(q, 10, 3, 0, 1);
        pulls(q, 10, 3, 0, 2);
        pulls(q, 20, 3, 0, 3);
        ends(q, 3, 0, 3);
        Make.read(q, 0, 100, 1, 20, 2, 100, 10, 1002, 4, 100, 6, 1001);
        q.open();
        pulls(q, 1, 3, 3, 1);
        ends(q, 3, 3, 1);
        Make.read(q, 0, 7, 1, 20);
        q.open();
        pulls(q, 3, 3, 0, 1);
        ends(q, 3, 0, 1);
        Make.read(q, 0, 100, 8, 100, 1, 20);
        q.open();
        pulls(q, 1, 3, 0, 1);
        CHECKS.is("the sum", q.value(1), 6);
        ends(q, 3, 0, 1);
        Make.read(q, 0, 100, 1, 20, 2, 100, 11, 1000, 4, 100);
        q.open();
        ends(q, 3, 3, 0);
        CHECKS.refuses(q, "value() of no group", STATE, () -> q.value(0));
    }

    private static void empty() {
        OrchardQuery q = Make.three();
        Make.read(q, 0, 100, 1, 20, 2, 100, 10, 100);
        q.open();
        ends(q, 3, 3, 0);
        q.rewrite(3);
        q.open();
        ends(q, 0, 0, 0);
        Make.read(q, 0, 7, 100, 1, 20, 2, 100, 10, 100);
        q.rewrite(3);
        q.open();
        pulls(q, 0, 0, 0, 1);
        CHECKS.is("a column without a meeting", q.value(1), 0);
        ends(q, 0, 0, 1);
        Make.read(q, 0, 7, 1, 20, 2, 100, 11, 1000);
        q.open();
        pulls(q, 0, 3, 3, 1);
    }

    private static void isOver(OrchardQuery q, String behind, boolean read) {
        if (read) {
            done(q, "behind " + behind, 0, 0, 0);
            CHECKS.refuses(q, "value() behind " + behind, STATE, () -> q.value(0));
        } else {
            CHECKS.refuses(q, "done() behind " + behind, STATE, () -> q.done(0));
        }
        CHECKS.refuses(q, "next() behind " + behind, STATE, q::next);
        Make.read(q, 0, 100, 1, 20, 21);
        q.open();
        q.next();
    }

    private static void over() {
        OrchardQuery q = Make.three();
        q.table(1);
        Make.read(q, 0, 100, 1, 20, 21);
        q.open();
        q.next();
        q.token(6);
        isOver(q, "token()", false);
        q.clear();
        isOver(q, "clear()", false);
        q.read();
        isOver(q, "read()", true);
        for (int rule = 0; rule < 4; rule++) {
            q.rewrite(rule);
            isOver(q, "rewrite(" + rule + ")", true);
        }
        q.swap(1, 1);
        isOver(q, "swap()", true);
        q.best();
        isOver(q, "best()", true);
        q.row(3, 1, 1, 1);
        isOver(q, "row() of another table", true);
        q.drop(3, 0);
        isOver(q, "drop() of another table", true);
        q.row(0, 1, 1, 1);
        isOver(q, "row()", true);
        q.drop(0, 3);
        isOver(q, "drop()", true);
        q.open();
        q.drop(0, 0);
        isOver(q, "drop() behind open()", true);
    }

    private static void notOver() {
        OrchardQuery q = Make.three();
        Make.read(q, 0, 100, 1, 20);
        q.open();
        q.next();
        CHECKS.refuses(q, "token()", ARGUMENT, () -> q.token(12));
        CHECKS.refuses(q, "rewrite()", ARGUMENT, () -> q.rewrite(4));
        CHECKS.refuses(q, "swap()", INDEX, () -> q.swap(0, 1));
        CHECKS.refuses(q, "row()", ARGUMENT, () -> q.row(0, 1000, 0, 0));
        CHECKS.refuses(q, "row()", INDEX, () -> q.row(5, 0, 0, 0));
        CHECKS.refuses(q, "drop()", INDEX, () -> q.drop(0, 3));
        q.table(1);
        q.faultAt();
        q.many(0);
        q.order(0);
        q.guess(0);
        q.cost();
        q.isEmpty();
        q.results();
        q.result(2, 0);
        q.wouldDo(0);
        q.share();
        q.digest();
        q.variety(0, 0);
        done(q, "not over", 1, 0, 1);
        CHECKS.is("the value of the one before", q.value(0), 1);
        pulls(q, 2, 2, 0, 2);
        pulls(q, 3, 3, 0, 3);
        ends(q, 3, 0, 3);
        q.share();
        CHECKS.is("the value of the last one", q.value(0), 3);
    }

    /** The way of the walk that counts meetings is not that of the pull. */
    private static void besideCounting() {
        OrchardQuery q = Make.three();
        Make.read(q, 0, 100, 110, 1, 20, 21, 2, 100, 9, 110, 6, 1002);
        q.open();
        pulls(q, 1, 2, 1, 1);
        CHECKS.is("meetingsWithout()", q.meetingsWithout(0), 12);
        CHECKS.is("share()", q.share(), 3.0 / 12);
        pulls(q, 1, 3, 2, 2);
        CHECKS.is("results()", q.results(), 2);
        ends(q, 3, 2, 2);
    }

    public static void main(String[] args) {
        refused();
        oneByOne();
        checksStop();
        limit();
        allAtFirst();
        empty();
        over();
        notOver();
        besideCounting();
        CHECKS.end();
    }
}
