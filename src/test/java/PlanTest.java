/** Promises 11 to 18: condition, rewrite, swap, best, order, guess, cost, isEmpty. */
public final class PlanTest {
    private static final Class<IndexOutOfBoundsException> INDEX = IndexOutOfBoundsException.class;
    private static final Class<IllegalArgumentException> ARGUMENT = IllegalArgumentException.class;
    private static final Class<IllegalStateException> STATE = IllegalStateException.class;
    private static final int[] FAR = {Integer.MIN_VALUE, -1, Integer.MAX_VALUE};
    private static final Checks CHECKS = new Checks("PlanTest");

    private static void condition(OrchardQuery q, int number, int... due) {
        for (int what = 0; what < due.length; what++) {
            CHECKS.is("condition(" + number + ", " + what + ")", q.condition(number, what), due[what]);
        }
    }

    private static void refused() {
        OrchardQuery q = Make.three();
        Make.write(q, 0, 100, 1, 20);
        for (int turn = 0; turn < 2; turn++) {
            CHECKS.refuses(q, "condition()", STATE, () -> q.condition(-1, -1));
            CHECKS.refuses(q, "rewrite()", STATE, () -> q.rewrite(-1));
            CHECKS.refuses(q, "swap()", STATE, () -> q.swap(-1, 9));
            CHECKS.refuses(q, "best()", STATE, q::best);
            CHECKS.refuses(q, "order()", STATE, () -> q.order(-1));
            CHECKS.refuses(q, "guess()", STATE, () -> q.guess(-1));
            CHECKS.refuses(q, "cost()", STATE, q::cost);
            CHECKS.refuses(q, "isEmpty()", STATE, q::isEmpty);
            CHECKS.is("a fault", Make.read(q, 0, 100, 1, 20, 0), 9);
        }
    }

    private static void conditions() {
        OrchardQuery q = Make.three();
        Make.read(q, 0, 100, 1, 20, 21, 22, 2, 110, 9, 1002, 3, 100, 9, 110, 3, 120, 10, 1005,
                3, 112, 10, 101, 3, 112, 11, 101, 3, 120, 11, 1999);
        condition(q, 0, 110, 9, 1002, 2, 1, 333);
        condition(q, 1, 100, 9, 110, 2, 1, 333);
        condition(q, 2, 120, 10, 1005, 2, 2, 500);
        condition(q, 3, 112, 10, 101, 2, 1, 667);
        condition(q, 4, 112, 11, 101, 2, 1, 333);
        condition(q, 5, 120, 11, 1999, 2, 2, 333);
        for (int far : FAR) {
            CHECKS.refuses(q, "condition(" + far + ", 0)", INDEX, () -> q.condition(far, 0));
            CHECKS.refuses(q, "condition(" + far + ", " + far + ")", INDEX, () -> q.condition(far, far));
            CHECKS.refuses(q, "condition(0, " + far + ")", ARGUMENT, () -> q.condition(0, far));
        }
        CHECKS.refuses(q, "condition(6, 0)", INDEX, () -> q.condition(6, 0));
        CHECKS.refuses(q, "condition(0, 6)", ARGUMENT, () -> q.condition(0, 6));
        q.swap(0, 2);
        condition(q, 0, 110, 9, 1002, 2, 1, 333);
        condition(q, 1, 100, 9, 110, 2, 2, 333);
        condition(q, 2, 120, 10, 1005, 2, 0, 500);
    }

    private static void parts() {
        OrchardQuery q = new OrchardQuery();
        q.table(3);
        q.table(2);
        Make.read(q, 0, 100, 1, 20, 21, 2, 100, 9, 1000, 3, 100, 10, 1000, 3, 100, 11, 1000,
                3, 100, 9, 110, 3, 100, 10, 110, 3, 111, 9, 101);
        int[] none = {1000, 0, 333, 1000, 0, 1000};
        for (int i = 0; i < 6; i++) {
            CHECKS.is("part " + i + " without rows", q.condition(i, 5), none[i]);
        }
        q.row(1, 1, 1, 0);
        q.row(1, 2, 1, 0);
        q.row(1, 3, 1, 0);
        int[] other = {1000, 0, 333, 333, 667, 1000};
        for (int i = 0; i < 6; i++) {
            CHECKS.is("part " + i + " with rows of one", q.condition(i, 5), other[i]);
        }
        for (int i = 0; i < 7; i++) {
            q.row(0, i, i % 6, 0);
        }
        int[] both = {142, 858, 333, 142, 858, 166};
        for (int i = 0; i < 6; i++) {
            CHECKS.is("part " + i + " with rows of both", q.condition(i, 5), both[i]);
        }
        q.drop(0, 0);
        CHECKS.is("part with a row less", q.condition(0, 5), 166);
    }

    private static void ruleTrue() {
        OrchardQuery q = Make.three();
        Make.read(q, 0, 100, 1, 20, 20, 2, 100, 9, 100, 3, 100, 9, 110, 3, 101, 9, 101,
                3, 101, 10, 101, 3, 101, 11, 101, 3, 110, 9, 110);
        CHECKS.is("TRUE", q.rewrite(0), 3);
        CHECKS.is("conditions left", q.many(4), 3);
        condition(q, 0, 100, 9, 110, 1, 1, 333);
        condition(q, 1, 101, 10, 101, 1, 0, 500);
        condition(q, 2, 101, 11, 101, 1, 0, 333);
        CHECKS.is("TRUE again", q.rewrite(0), 0);
        CHECKS.refuses(q, "a condition that is gone", INDEX, () -> q.condition(3, 0));
    }

    private static void ruleDrawn() {
        OrchardQuery q = Make.three();
        Make.read(q, 0, 100, 1, 20, 21, 22, 2, 120, 9, 110, 3, 110, 9, 100, 3, 100, 9, 1003,
                3, 110, 10, 1001, 3, 110, 11, 101, 3, 110, 9, 1004);
        CHECKS.is("DRAWN", q.rewrite(1), 4);
        condition(q, 6, 120, 9, 1004, 2, 2, 500);
        condition(q, 7, 110, 9, 1003, 2, 1, 333);
        condition(q, 8, 120, 9, 1003, 2, 2, 500);
        condition(q, 9, 100, 9, 1004, 2, 0, 333);
        CHECKS.is("DRAWN again", q.rewrite(1), 0);
        CHECKS.is("conditions", q.many(4), 10);

        Make.read(q, 0, 100, 1, 20, 2, 100, 9, 100, 3, 100, 9, 1001, 3, 101, 10, 100, 3, 101, 11, 100);
        CHECKS.is("DRAWN from the same column, IS NOT and LESS", q.rewrite(1), 0);
        Make.read(q, 0, 100, 1, 20, 2, 100, 9, 101, 3, 100, 10, 1001, 3, 100, 11, 1001);
        CHECKS.is("DRAWN from IS NOT and LESS of a number", q.rewrite(1), 0);
        Make.read(q, 0, 100, 1, 20, 2, 101, 9, 1001, 3, 100, 9, 101, 3, 100, 9, 1001);
        CHECKS.is("DRAWN what is there", q.rewrite(1), 0);
        Make.read(q, 0, 100, 1, 20, 20, 2, 100, 9, 1001, 3, 110, 9, 1001);
        CHECKS.is("DRAWN from the same column of another seat", q.rewrite(1), 0);

        Make.read(q, 0, 100, 1, 21, 21, 2, 100, 9, 101, 3, 101, 9, 102, 3, 102, 9, 110,
                3, 100, 9, 1001, 3, 100, 9, 1002, 3, 100, 9, 1003);
        CHECKS.is("DRAWN up to 12", q.rewrite(1), 6);
        CHECKS.is("conditions", q.many(4), 12);
        int[] drawn = {101, 1001, 101, 1002, 101, 1003, 102, 1001, 102, 1002, 102, 1003};
        for (int i = 0; i < 6; i++) {
            condition(q, 6 + i, drawn[2 * i], 9, drawn[2 * i + 1], 1, 0);
        }
        CHECKS.is("DRAWN with 12", q.rewrite(1), 0);

        Make.read(q, 0, 100, 1, 20, 21, 2, 100, 9, 110, 3, 100, 9, 1001);
        q.rewrite(2);
        q.swap(0, 1);
        CHECKS.is("DRAWN in another order", q.rewrite(1), 1);
        condition(q, 2, 110, 9, 1001, 1, 0, 333);
    }

    private static void ruleDown() {
        OrchardQuery q = Make.three();
        Make.read(q, 0, 100, 1, 20, 21, 22, 2, 100, 9, 1001, 3, 110, 9, 100, 3, 120, 9, 1005);
        CHECKS.is("DOWN", q.rewrite(2), 2);
        CHECKS.is("level of the first", q.condition(0, 3), 0);
        CHECKS.is("level of the second", q.condition(1, 3), 1);
        CHECKS.is("level of the third", q.condition(2, 3), 2);
        CHECKS.is("DOWN again", q.rewrite(2), 0);
    }

    private static void never(int due, int... conditions) {
        OrchardQuery q = Make.three();
        Make.read(q, Make.all(new int[] {0, 100, 1, 20, 21, 2}, conditions));
        CHECKS.is("isEmpty() at first", q.isEmpty(), false);
        CHECKS.is("NEVER", q.rewrite(3), due);
        CHECKS.is("isEmpty()", q.isEmpty(), due == 1);
        CHECKS.is("NEVER again", q.rewrite(3), 0);
        CHECKS.is("isEmpty() still", q.isEmpty(), due == 1);
        CHECKS.is("no condition goes", q.many(4), (conditions.length + 1) / 4);
    }

    private static void ruleNever() {
        never(1, 100, 9, 1001, 3, 100, 9, 1002);
        never(1, 100, 9, 1001, 3, 101, 9, 1002, 3, 100, 9, 1003);
        never(0, 100, 9, 1001, 3, 100, 9, 1001);
        never(0, 100, 9, 1001, 3, 101, 9, 1002);
        never(0, 100, 9, 1001, 3, 110, 9, 1002);
        never(0, 100, 9, 1001, 3, 100, 10, 1002, 3, 100, 11, 1000);
        never(0, 100, 10, 1001, 3, 100, 9, 1001);
        never(0, 100, 9, 110, 3, 100, 9, 111);
        never(0, 100, 9, 110, 3, 100, 9, 1001);
        never(0, 100, 9, 100);
        never(0, 100, 10, 110);
        never(0, 100, 11, 110);
        never(1, 100, 10, 100);
        never(1, 100, 9, 1001, 3, 111, 11, 111);
        OrchardQuery q = Make.three();
        Make.read(q, 0, 100, 1, 20, 2, 100, 10, 100);
        q.rewrite(3);
        q.row(0, 1, 1, 0);
        CHECKS.is("isEmpty() behind row()", q.isEmpty(), true);
        q.read();
        CHECKS.is("isEmpty() behind read()", q.isEmpty(), false);
        for (int rule : new int[] {-1, 4, Integer.MIN_VALUE, Integer.MAX_VALUE}) {
            CHECKS.refuses(q, "rewrite(" + rule + ")", ARGUMENT, () -> q.rewrite(rule));
        }
    }

    private static void order(OrchardQuery q, int... due) {
        for (int place = 0; place < due.length; place++) {
            CHECKS.is("order(" + place + ")", q.order(place), due[place]);
        }
        int behind = due.length;
        CHECKS.refuses(q, "order(" + behind + ")", INDEX, () -> q.order(behind));
    }

    private static void swap() {
        OrchardQuery q = Make.three();
        Make.read(q, 0, 100, 1, 20, 21, 22, 2, 100, 9, 1001, 3, 110, 9, 1002, 3, 120, 9, 1005);
        order(q, 0, 1, 2);
        q.rewrite(2);
        CHECKS.is("swap(0, 2)", q.swap(0, 2), 2);
        order(q, 2, 1, 0);
        CHECKS.is("a level that was below", q.condition(0, 3), 2);
        CHECKS.is("a level that is as it was", q.condition(1, 3), 1);
        CHECKS.is("a level that is above", q.condition(2, 3), 2);
        CHECKS.is("swap(2, 1)", q.swap(2, 1), 1);
        order(q, 2, 0, 1);
        CHECKS.is("a level stays above", q.condition(0, 3), 2);
        CHECKS.is("another one that was below", q.condition(1, 3), 2);
        CHECKS.is("swap(1, 1)", q.swap(1, 1), 0);
        order(q, 2, 0, 1);
        for (int far : FAR) {
            CHECKS.refuses(q, "swap(" + far + ", 0)", INDEX, () -> q.swap(far, 0));
            CHECKS.refuses(q, "swap(0, " + far + ")", INDEX, () -> q.swap(0, far));
            CHECKS.refuses(q, "order(" + far + ")", INDEX, () -> q.order(far));
            CHECKS.refuses(q, "guess(" + far + ")", INDEX, () -> q.guess(far));
        }
        CHECKS.refuses(q, "swap(3, 0)", INDEX, () -> q.swap(3, 0));
        CHECKS.refuses(q, "swap(0, 3)", INDEX, () -> q.swap(0, 3));
        Make.read(q, 0, 100, 1, 20, 21);
        CHECKS.refuses(q, "swap(0, 2) of two", INDEX, () -> q.swap(0, 2));
        CHECKS.is("swap(1, 0)", q.swap(1, 0), 0);
        order(q, 1, 0);
        Make.read(q, 0, 100, 1, 20);
        CHECKS.is("swap(0, 0) of one", q.swap(0, 0), 0);
        CHECKS.refuses(q, "swap(0, 1) of one", INDEX, () -> q.swap(0, 1));
    }

    private static void guesses() {
        OrchardQuery q = Make.three();
        Make.read(q, 0, 100, 1, 20, 21, 22);
        CHECKS.is("guess(0)", q.guess(0), 3);
        CHECKS.is("guess(1)", q.guess(1), 12);
        CHECKS.is("guess(2)", q.guess(2), 24);
        CHECKS.is("cost()", q.cost(), 39);
        CHECKS.refuses(q, "guess(3)", INDEX, () -> q.guess(3));
        Make.read(q, 0, 100, 1, 21, 20, 2, 100, 11, 1003, 3, 101, 9, 1005, 3, 110, 10, 1009);
        CHECKS.is("guess(0) at first", q.guess(0), 4);
        // 4 * 3 = 12; * 333 / 1000 = 3; * 500 / 1000 = 1; * 667 / 1000 = 0: cut each time
        CHECKS.is("guess(1) at first", q.guess(1), 0);
        CHECKS.is("cost() at first", q.cost(), 16);
        q.rewrite(2);
        CHECKS.is("guess(0) behind DOWN", q.guess(0), 0);
        CHECKS.is("cost() behind DOWN", q.cost(), 4);
        CHECKS.refuses(q, "guess(2) of two", INDEX, () -> q.guess(2));

        OrchardQuery cut = new OrchardQuery();
        cut.table(2);
        for (int i = 0; i < 7; i++) {
            cut.row(0, i % 3, i % 2, 0);
        }
        Make.read(cut, 0, 100, 1, 20, 2, 100, 10, 1000, 3, 101, 9, 1000);
        CHECKS.is("667 first, then 500: 7, 4, 2", cut.guess(0), 2);
        Make.read(cut, 0, 100, 1, 20, 2, 101, 9, 1000, 3, 100, 10, 1000);
        CHECKS.is("500 first, then 667: 7, 3, 2", cut.guess(0), 2);
        cut.row(0, 0, 0, 0);
        cut.row(0, 0, 0, 0);
        Make.read(cut, 0, 100, 1, 20, 2, 100, 11, 1000, 3, 101, 9, 1000);
        CHECKS.is("333 first, then 500: 9, 2, 1", cut.guess(0), 1);
        Make.read(cut, 0, 100, 1, 20, 2, 101, 9, 1000, 3, 100, 10, 1000);
        CHECKS.is("500 first, then 667: 9, 4, 2", cut.guess(0), 2);

        Make.read(q, 0, 100, 1, 20, 21, 2, 100, 10, 100);
        CHECKS.is("cost() before it is EMPTY", q.cost(), 15);
        q.rewrite(3);
        CHECKS.is("cost() of EMPTY", q.cost(), 0);
        CHECKS.is("guess() of EMPTY", q.guess(1), 8);
        q.row(1, 1, 1, 1);
        CHECKS.is("guess() with a row more", q.guess(1), 10);
    }

    private static void best() {
        OrchardQuery q = Make.three();
        Make.read(q, 0, 100, 1, 20, 21, 22);
        // 2, 6, 24 with the order 2 0 1
        CHECKS.is("best()", q.best(), 32);
        order(q, 2, 0, 1);
        CHECKS.is("cost() behind best()", q.cost(), 32);
        Make.read(q, 0, 100, 1, 20, 20, 20);
        q.swap(0, 2);
        CHECKS.is("best() of several", q.best(), 39);
        order(q, 0, 1, 2);

        Make.read(q, 0, 100, 1, 21, 20, 20);
        CHECKS.is("best() with the greatest last", q.best(), 48);
        order(q, 1, 2, 0);

        Make.read(q, 0, 100, 1, 20, 21, 2, 110, 9, 1001, 3, 112, 9, 1007, 3, 100, 11, 110);
        CHECKS.is("a level at first", q.condition(0, 3), 1);
        // 4 rows, * 333 / 1000 = 1, * 333 / 1000 = 0
        CHECKS.is("best() by LOW", q.best(), 4);
        order(q, 1, 0);
        CHECKS.is("the LOW as level", q.condition(0, 3), 0);
        CHECKS.is("the LOW as level", q.condition(1, 3), 0);
        CHECKS.is("the LOW as level", q.condition(2, 3), 1);

        Make.read(q, 0, 100, 1, 20, 21, 22, 2, 100, 10, 100, 3, 110, 9, 1001);
        q.rewrite(3);
        q.swap(0, 2);
        CHECKS.is("best() of EMPTY", q.best(), 0);
        order(q, 0, 1, 2);
        CHECKS.is("its levels", q.condition(0, 3), 0);
        CHECKS.is("its levels", q.condition(1, 3), 1);
        CHECKS.is("it stays EMPTY", q.isEmpty(), true);

        Make.read(q, 0, 100, 1, 21);
        CHECKS.is("best() of one", q.best(), 4);
        order(q, 0);
        q.table(1);
        Make.read(q, 0, 100, 1, 20, 23);
        CHECKS.is("best() with a table without rows", q.best(), 0);
        order(q, 1, 0);
    }

    /** Each order of three is the best one for some tables. */
    private static void bestOfSix() {
        int[][] sizes = {{1, 2, 3}, {1, 3, 2}, {2, 1, 3}, {3, 1, 2}, {2, 3, 1}, {3, 2, 1}};
        int[][] orders = {{0, 1, 2}, {0, 2, 1}, {1, 0, 2}, {1, 2, 0}, {2, 0, 1}, {2, 1, 0}};
        for (int i = 0; i < sizes.length; i++) {
            OrchardQuery q = new OrchardQuery();
            for (int t = 0; t < 3; t++) {
                q.table(1);
                for (int r = 0; r < sizes[i][t]; r++) {
                    q.row(t, r, 0, 0);
                }
            }
            Make.read(q, 0, 100, 1, 20, 21, 22);
            CHECKS.is("best() of six", q.best(), 1 + 2 + 6);
            order(q, orders[i]);
        }
    }

    public static void main(String[] args) {
        refused();
        conditions();
        parts();
        ruleTrue();
        ruleDrawn();
        ruleDown();
        ruleNever();
        swap();
        guesses();
        best();
        bestOfSix();
        CHECKS.end();
    }
}
