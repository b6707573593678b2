/** Promises 1 to 5: a new object, table, row, drop, variety. */
public final class TablesTest {
    private static final Class<IndexOutOfBoundsException> INDEX = IndexOutOfBoundsException.class;
    private static final Class<IllegalArgumentException> ARGUMENT = IllegalArgumentException.class;
    private static final Class<IllegalStateException> STATE = IllegalStateException.class;
    private static final int[] FAR = {Integer.MIN_VALUE, -1, Integer.MAX_VALUE};
    private static final Checks CHECKS = new Checks("TablesTest");

    private static void newObject() {
        OrchardQuery q = new OrchardQuery();
        for (int what = 0; what <= 4; what++) {
            CHECKS.is("many(" + what + ") of a new object", q.many(what), 0);
        }
        CHECKS.is("faultAt() of a new object", q.faultAt(), -1);
        CHECKS.refuses(q, "cost() of a new object", STATE, q::cost);
        CHECKS.is("read() of a new object", q.read(), 1);
        OrchardQuery other = new OrchardQuery();
        other.table(1);
        CHECKS.is("an object is not changed by another one", q.many(0), 0);
    }

    private static void table() {
        OrchardQuery q = new OrchardQuery();
        for (int columns : new int[] {0, 4, -1, Integer.MIN_VALUE, Integer.MAX_VALUE}) {
            CHECKS.refuses(q, "table(" + columns + ")", ARGUMENT, () -> q.table(columns));
        }
        CHECKS.is("the first table", q.table(1), 0);
        CHECKS.is("the second table", q.table(2), 1);
        CHECKS.is("the third table", q.table(3), 2);
        CHECKS.is("the fourth table", q.table(3), 3);
        CHECKS.is("the fifth table", q.table(3), 4);
        CHECKS.is("tables", q.many(0), 5);
        CHECKS.refuses(q, "a sixth table", STATE, () -> q.table(1));
        CHECKS.refuses(q, "a sixth table of no columns", ARGUMENT, () -> q.table(0));
        for (int columns = 1; columns <= 3; columns++) {
            CHECKS.is("the last column", q.variety(columns - 1, columns - 1), 0);
            int behind = columns;
            CHECKS.refuses(q, "a column behind it", INDEX, () -> q.variety(behind - 1, behind));
        }
    }

    private static void row() {
        OrchardQuery q = new OrchardQuery();
        CHECKS.refuses(q, "row() without a table", INDEX, () -> q.row(0, 5000, 0, 0));
        q.table(1);
        q.table(2);
        q.table(3);
        CHECKS.is("the least value", q.row(0, -999, 5000, -5000), 1);
        CHECKS.is("the greatest value", q.row(0, 999, Integer.MIN_VALUE, Integer.MAX_VALUE), 2);
        CHECKS.is("two columns", q.row(1, -999, 999, 1000), 1);
        CHECKS.is("three columns", q.row(2, 999, -999, 999), 1);
        CHECKS.is("rows alike", q.row(2, 999, -999, 999), 2);
        for (int bad : new int[] {-1000, 1000, Integer.MIN_VALUE, Integer.MAX_VALUE}) {
            for (int table = 0; table < 3; table++) {
                int t = table;
                CHECKS.refuses(q, "a is " + bad, ARGUMENT, () -> q.row(t, bad, 0, 0));
            }
            CHECKS.refuses(q, "b is " + bad, ARGUMENT, () -> q.row(1, 0, bad, 0));
            CHECKS.refuses(q, "b is " + bad, ARGUMENT, () -> q.row(2, 0, bad, 0));
            CHECKS.refuses(q, "c is " + bad, ARGUMENT, () -> q.row(2, 0, 0, bad));
        }
        CHECKS.refuses(q, "no such table", INDEX, () -> q.row(3, 0, 0, 0));
        for (int far : FAR) {
            CHECKS.refuses(q, "table " + far + ", first of two", INDEX, () -> q.row(far, 1000, 0, 0));
        }
        for (int i = 3; i <= 14; i++) {
            CHECKS.is("row " + i, q.row(0, i, 0, 0), i);
        }
        CHECKS.refuses(q, "a fifteenth row", STATE, () -> q.row(0, 0, 0, 0));
        CHECKS.refuses(q, "a fifteenth row of a bad value", ARGUMENT, () -> q.row(0, 1000, 0, 0));
        Make.read(q, 0, 100, 1, 20);
        CHECKS.is("the first value", q.result(0, 0), -999);
        CHECKS.is("the last value", q.result(13, 0), 14);
        Make.read(q, 0, 102, 101, 100, 1, 22);
        CHECKS.is("c", q.result(0, 0), 999);
        CHECKS.is("b", q.result(0, 1), -999);
        CHECKS.is("a", q.result(0, 2), 999);
    }

    private static void drop() {
        OrchardQuery q = new OrchardQuery();
        CHECKS.refuses(q, "drop() without a table", INDEX, () -> q.drop(0, 0));
        Make.table(q, new int[] {1, 2, 3}, new int[] {4, 5, 6}, new int[] {7, 8, 9}, new int[] {4, 5, 6});
        Make.table(q, new int[] {1});
        for (int far : FAR) {
            CHECKS.refuses(q, "drop(" + far + ", 0)", INDEX, () -> q.drop(far, 0));
            CHECKS.refuses(q, "drop(0, " + far + ")", INDEX, () -> q.drop(0, far));
        }
        CHECKS.refuses(q, "drop(2, 0)", INDEX, () -> q.drop(2, 0));
        CHECKS.refuses(q, "drop(0, 4)", INDEX, () -> q.drop(0, 4));
        CHECKS.refuses(q, "drop(1, 1)", INDEX, () -> q.drop(1, 1));
        CHECKS.is("drop(0, 1)", q.drop(0, 1), 3);
        Make.read(q, 0, 100, 101, 102, 1, 20);
        int[] left = {1, 2, 3, 7, 8, 9, 4, 5, 6};
        for (int i = 0; i < left.length; i++) {
            CHECKS.is("value " + i + " that is left", q.result(i / 3, i % 3), left[i]);
        }
        CHECKS.is("drop the last", q.drop(0, 2), 2);
        CHECKS.is("drop the first", q.drop(0, 0), 1);
        CHECKS.is("what is left", q.result(0, 0), 7);
        CHECKS.is("drop the only one", q.drop(0, 0), 0);
        CHECKS.refuses(q, "drop(0, 0) of none", INDEX, () -> q.drop(0, 0));
        CHECKS.is("the other table has its row", q.variety(1, 0), 1);
        CHECKS.is("a row behind that", q.row(0, 1, 1, 1), 1);
        for (int i = 2; i <= 14; i++) {
            q.row(0, i, i, i);
        }
        CHECKS.is("drop of a full table", q.drop(0, 13), 13);
        CHECKS.is("and a row again", q.row(0, 0, 0, 0), 14);
    }

    private static void variety() {
        OrchardQuery q = new OrchardQuery();
        CHECKS.refuses(q, "variety() without a table", INDEX, () -> q.variety(0, 0));
        q.table(2);
        CHECKS.is("without rows", q.variety(0, 0), 0);
        q.row(0, 5, 1, 0);
        q.row(0, 5, 2, 0);
        q.row(0, -5, 1, 0);
        CHECKS.is("of the first", q.variety(0, 0), 2);
        CHECKS.is("of the second", q.variety(0, 1), 2);
        q.row(0, 5, 3, 0);
        CHECKS.is("of the first", q.variety(0, 0), 2);
        CHECKS.is("of the second", q.variety(0, 1), 3);
        q.drop(0, 0);
        CHECKS.is("of one that is there still", q.variety(0, 0), 2);
        q.drop(0, 1);
        CHECKS.is("of one that is gone", q.variety(0, 0), 1);
        for (int far : FAR) {
            CHECKS.refuses(q, "variety(" + far + ", 0)", INDEX, () -> q.variety(far, 0));
            CHECKS.refuses(q, "variety(0, " + far + ")", INDEX, () -> q.variety(0, far));
        }
        CHECKS.refuses(q, "variety(0, 2)", INDEX, () -> q.variety(0, 2));
        CHECKS.refuses(q, "variety(1, 0)", INDEX, () -> q.variety(1, 0));
    }

    public static void main(String[] args) {
        newObject();
        table();
        row();
        drop();
        variety();
        CHECKS.end();
    }
}
