/** Promises 6 to 10: token, clear, read, faultAt, many. */
public final class ReadTest {
    private static final Class<IllegalArgumentException> ARGUMENT = IllegalArgumentException.class;
    private static final Class<IllegalStateException> STATE = IllegalStateException.class;
    private static final int C = 100;
    private static final int[] HEAD = {0, C, 1, 20};
    private static final int[] CONDITION = {C, 9, 1001};
    private static final Checks CHECKS = new Checks("ReadTest");

    private static void token() {
        OrchardQuery q = new OrchardQuery();
        int[] none = {Integer.MIN_VALUE, -1, 12, 19, 25, 99, 200, 999, 2000, Integer.MAX_VALUE};
        for (int token : none) {
            CHECKS.refuses(q, "token(" + token + ")", ARGUMENT, () -> q.token(token));
        }
        int n = 0;
        for (int token : new int[] {0, 1, 2, 3, 4, 5, 6, 7, 8, 9, 10, 11, 20, 24, 100, 199, 1000, 1999}) {
            n++;
            CHECKS.is("token(" + token + ")", q.token(token), n);
        }
        while (n < 40) {
            n++;
            CHECKS.is("a token more", q.token(0), n);
        }
        CHECKS.is("faultAt with 40", q.read(), 2);
        CHECKS.refuses(q, "a 41st token", STATE, () -> q.token(0));
        CHECKS.refuses(q, "a 41st that is none", ARGUMENT, () -> q.token(12));
        CHECKS.is("tokens", q.many(1), 40);
        CHECKS.is("the fault stays where a token is refused", q.faultAt(), 1);
    }

    private static void clear() {
        OrchardQuery q = Make.three();
        CHECKS.is("clear() of nothing", q.clear(), 0);
        CHECKS.is("read", Make.read(q, HEAD), 0);
        CHECKS.is("clear()", q.clear(), 4);
        CHECKS.is("tokens behind that", q.many(1), 0);
        CHECKS.is("tables behind that", q.many(0), 3);
        CHECKS.refuses(q, "cost() behind that", STATE, q::cost);
        CHECKS.is("read() behind that", q.read(), 1);
        CHECKS.is("faultAt()", q.faultAt(), 0);
        q.clear();
        CHECKS.is("faultAt() behind clear()", q.faultAt(), -1);
        Make.read(q, HEAD);
        q.token(6);
        CHECKS.refuses(q, "cost() behind token()", STATE, q::cost);
        CHECKS.is("faultAt() behind token()", q.faultAt(), -1);
        CHECKS.is("read() behind token()", q.read(), 8);
        CHECKS.is("faultAt() behind that", q.faultAt(), 5);
        q.token(1000);
        CHECKS.is("faultAt() behind another token()", q.faultAt(), -1);
        CHECKS.is("read() behind that", q.read(), 0);
        CHECKS.is("results() behind that", q.results(), 0);
    }

    private static void fault(int fault, int place, int... tokens) {
        OrchardQuery q = Make.three();
        StringBuilder text = new StringBuilder("read() of");
        for (int token : tokens) {
            text.append(' ').append(token);
        }
        CHECKS.is(text.toString(), Make.read(q, tokens), fault);
        CHECKS.is(text + ": faultAt()", q.faultAt(), fault == 0 ? -1 : place);
        if (fault == 0) {
            CHECKS.is(text + ": is read", q.many(3) > 0, true);
        } else {
            CHECKS.refuses(q, text + ": open()", STATE, q::open);
            CHECKS.is(text + ": items", q.many(2), 0);
            CHECKS.is(text + ": seats", q.many(3), 0);
            CHECKS.is(text + ": conditions", q.many(4), 0);
        }
    }

    private static void good(int... tokens) {
        fault(0, -1, tokens);
    }

    private static void behindHead(int fault, int place, int... more) {
        fault(fault, place, Make.all(HEAD, more));
    }

    private static void faultsOfHead() {
        fault(1, 0);
        fault(1, 0, 1);
        fault(1, 0, C);
        fault(2, 1, 0);
        fault(2, 1, 0, 1);
        fault(2, 1, 0, 0);
        fault(2, 1, 0, 1000);
        fault(2, 1, 0, 9);
        fault(2, 2, 0, 8);
        fault(2, 2, 0, 8, 7);
        fault(2, 2, 0, 8, 1);
        fault(2, 3, 0, C, 8, 8);
        fault(3, 2, 0, C);
        fault(3, 2, 0, C, 2);
        fault(3, 2, 0, C, 20);
        fault(3, 3, 0, 8, C, 1000);
        fault(3, 5, 0, C, 7, 7, 7);
        fault(3, 5, 0, C, 7, 7, 7, C);
        fault(3, 5, 0, C, 7, 7, 7, 7);
        fault(3, 5, 0, C, 7, 7, 7, 8, C, 1, 20);
        fault(4, 3, 0, C, 1);
        fault(4, 3, 0, C, 1, 2);
        fault(4, 3, 0, C, 1, 23);
        fault(4, 3, 0, C, 1, C);
        fault(4, 4, 0, C, 1, 20, 24);
        fault(4, 5, 0, C, 1, 20, 20, 23);
        fault(9, 6, 0, C, 1, 20, 20, 20, 20);
        fault(9, 6, 0, C, 1, 20, 20, 20, 23);
        good(0, C, 1, 20);
        good(0, C, 1, 20, 22, 21);
        good(0, C, 7, 8, C, C, 1, 20);
        good(0, 8, C, 8, C, 8, C, 8, C, 1, 20);
        good(0, 7, 1, 22);
    }

    private static void faultsOfTail() {
        behindHead(9, 4, 0);
        behindHead(9, 4, 1);
        behindHead(9, 4, 3);
        behindHead(9, 4, 7);
        behindHead(9, 4, 9);
        behindHead(9, 4, C);
        behindHead(9, 4, 1000);
        behindHead(5, 5, 2);
        behindHead(5, 5, 2, 1000);
        behindHead(5, 5, 2, 7);
        behindHead(6, 6, 2, C);
        behindHead(6, 6, 2, C, C);
        behindHead(6, 6, 2, C, 8);
        behindHead(6, 6, 2, C, 7);
        behindHead(7, 7, 2, C, 9);
        behindHead(7, 7, 2, C, 10, 20);
        behindHead(7, 7, 2, C, 11, 9);
        behindHead(9, 8, 2, C, 9, C, 2);
        behindHead(9, 8, 2, C, 9, C, 1000);
        behindHead(9, 8, 2, C, 9, 1999, C);
        behindHead(5, 9, 2, C, 10, C, 3);
        behindHead(5, 9, 2, C, 10, C, 3, 4);
        behindHead(6, 10, 2, C, 10, C, 3, C);
        behindHead(7, 11, 2, C, 10, C, 3, C, 11);
        behindHead(0, 0, 2, C, 10, C, 3, C, 11, 1000);
        behindHead(5, 5, 4);
        behindHead(5, 5, 4, 1000);
        behindHead(5, 5, 4, 7);
        behindHead(0, 0, 4, C);
        behindHead(9, 6, 4, C, C);
        behindHead(9, 6, 4, C, 2);
        behindHead(9, 6, 4, C, 4);
        behindHead(8, 5, 5);
        behindHead(8, 5, 5, C);
        behindHead(8, 5, 5, 6);
        behindHead(0, 0, 5, 1000);
        behindHead(9, 6, 5, 1000, 4);
        behindHead(9, 6, 5, 1000, 5);
        behindHead(8, 5, 6);
        behindHead(8, 5, 6, 20);
        behindHead(0, 0, 6, 1999);
        behindHead(9, 6, 6, 1000, 6);
        behindHead(9, 6, 6, 1000, 5);
        behindHead(0, 0, 4, C, 5, 1000, 6, 1000);
        behindHead(9, 10, 4, C, 5, 1000, 6, 1000, 0);
        int[] six = {2};
        for (int i = 0; i < 6; i++) {
            six = Make.all(six, CONDITION, i < 5 ? new int[] {3} : new int[0]);
        }
        behindHead(0, 0, six);
        behindHead(9, 28, Make.all(six, new int[] {3}));
        behindHead(9, 28, Make.all(six, new int[] {3}, CONDITION));
        behindHead(0, 0, Make.all(six, new int[] {4, C, 5, 1000, 6, 1000}));
        int[] long11 = {0, 8, C, 8, C, 8, C, 8, C, 1, 20};
        fault(8, 40, Make.all(long11, six, new int[] {4, C, 5, 1000, 6}));
        fault(0, -1, Make.all(long11, six, new int[] {4, C, 6, 1000}));
    }

    private static void faultsOfColumns() {
        fault(10, 1, 0, 110, 1, 20);
        fault(10, 1, 0, 102, 1, 20);
        fault(10, 2, 0, 8, 103, 1, 21);
        fault(10, 1, 0, 199, 1, 21);
        good(0, 102, 1, 21);
        good(0, 110, 1, 22, 20);
        good(0, 120, 1, 20, 20, 22);
        fault(10, 1, 0, 121, 1, 20, 20, 22);
        fault(10, 1, 0, 130, 1, 20, 20, 22);
        behindHead(10, 5, 2, 110, 9, 1000);
        behindHead(10, 7, 2, C, 9, 102);
        behindHead(10, 5, 2, 102, 9, 103);
        behindHead(10, 5, 4, 102);
        fault(10, 3, 0, C, 7, 109, 1, 20, 2, 190, 9, 1000);
        behindHead(11, 5, 5, 1001);
        behindHead(11, 5, 5, 1999, 6, 1000);
        fault(0, -1, 0, C, 7, 1, 20, 5, 1001);
        fault(11, 6, 0, C, 7, 1, 20, 5, 1002);
        fault(10, 6, 0, C, 7, 1, 20, 4, 102, 5, 1002);
        fault(11, 8, 0, C, 7, 1, 20, 4, C, 5, 1002);
        fault(9, 6, 0, 190, 1, 20, 5, 1009, 20);
    }

    private static void readAgain() {
        OrchardQuery q = Make.three();
        Make.write(q, 0, C, 1, 23);
        CHECKS.is("a table that is not there", q.read(), 4);
        q.table(1);
        CHECKS.is("faultAt() behind table()", q.faultAt(), 3);
        CHECKS.is("a table that has come", q.read(), 0);
        CHECKS.is("faultAt() behind that", q.faultAt(), -1);
        CHECKS.is("read() again", q.read(), 0);
        Make.read(q, 0, C, 7, 1, 20, 21, 2, C, 9, C, 3, C, 9, 1001, 3, C, 9, 1002, 3, C, 9, 110,
                4, C, 5, 1001, 6, 1001);
        q.rewrite(0);
        q.rewrite(1);
        q.rewrite(2);
        q.rewrite(3);
        q.swap(0, 1);
        CHECKS.is("conditions of the plan", q.many(4), 5);
        CHECKS.is("read() of a plan that was rewritten", q.read(), 0);
        CHECKS.is("conditions at first", q.many(4), 4);
        CHECKS.is("order at first", q.order(0), 0);
        CHECKS.is("not empty at first", q.isEmpty(), false);
        CHECKS.is("the first condition", q.condition(0, 2), C);
        CHECKS.is("its level at first", q.condition(1, 3), 1);
        Make.read(q, 0, C, 1, 21);
        CHECKS.is("nothing is left of a query before", q.results(), 4);
        CHECKS.is("no item is left", q.many(2), 1);
        CHECKS.is("no seat is left", q.many(3), 1);
        CHECKS.is("no condition is left", q.many(4), 0);
    }

    private static void many() {
        OrchardQuery q = Make.three();
        for (int what : new int[] {-1, 5, Integer.MIN_VALUE, Integer.MAX_VALUE}) {
            CHECKS.refuses(q, "many(" + what + ")", ARGUMENT, () -> q.many(what));
        }
        Make.write(q, 0, C, 7, 8, C, 1, 20, 21, 2, C, 9, 1001, 3, C, 9, 110, 3, C, 9, 1003);
        int[] unread = {3, 20, 0, 0, 0};
        int[] read = {3, 20, 3, 2, 3};
        for (int what = 0; what < 5; what++) {
            CHECKS.is("many(" + what + ") before it is read", q.many(what), unread[what]);
        }
        CHECKS.is("read()", q.read(), 0);
        for (int what = 0; what < 5; what++) {
            CHECKS.is("many(" + what + ")", q.many(what), read[what]);
        }
        q.rewrite(1);
        CHECKS.is("conditions of the plan", q.many(4), 5);
        q.token(0);
        unread[1] = 21;
        for (int what = 0; what < 5; what++) {
            CHECKS.is("many(" + what + ") behind token()", q.many(what), unread[what]);
        }
        CHECKS.is("read() with a fault", q.read(), 9);
        CHECKS.is("many(4) with a fault", q.many(4), 0);
    }

    public static void main(String[] args) {
        token();
        clear();
        faultsOfHead();
        faultsOfTail();
        faultsOfColumns();
        readAgain();
        many();
        CHECKS.end();
    }
}
