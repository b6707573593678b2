/** The edges of the TABLES, sentence by sentence: Term 1 and promises 1 to 5. */
public final class TableEdgesTest {
    private static final int LEAST = Integer.MIN_VALUE;
    private static final int MOST = Integer.MAX_VALUE;
    private static final int[] NO_VALUES = {LEAST, -1000, 1000, MOST};
    private static final Checks CHECKS = new Checks("TableEdgesTest");

    /** All VALUES of a TABLE, as it has so many COLUMNS. */
    private static String values(OrchardQuery q, int table, int columns) {
        String[] items = {"0.0", "0.0 0.1", "0.0 0.1 0.2"};
        Make.read(q, "SELECT " + items[columns - 1] + " FROM T" + table);
        return Make.results(q);
    }

    // ---- Promise 1

    private static void newObjectIsWithoutTables() {
        OrchardQuery q = new OrchardQuery();
        CHECKS.is("many(0)", q.many(0), 0);
        CHECKS.noIndex(q, "row(0, ..)", () -> q.row(0, 0, 0, 0));
        CHECKS.noIndex(q, "drop(0, 0)", () -> q.drop(0, 0));
        CHECKS.noIndex(q, "variety(0, 0)", () -> q.variety(0, 0));
        CHECKS.is("the first table", q.table(1), 0);
    }

    private static void newObjectHasAnEmptyQuery() {
        OrchardQuery q = new OrchardQuery();
        CHECKS.is("many(1)", q.many(1), 0);
        CHECKS.is("faultAt()", q.faultAt(), -1);
        CHECKS.is("clear()", q.clear(), 0);
        CHECKS.is("the first token", q.token(0), 1);
        OrchardQuery other = new OrchardQuery();
        CHECKS.is("read()", other.read(), 1);
        CHECKS.is("faultAt() behind read()", other.faultAt(), 0);
    }

    private static void newObjectIsNotRead() {
        OrchardQuery q = new OrchardQuery();
        for (int what = 2; what <= 4; what++) {
            CHECKS.is("many(" + what + ")", q.many(what), 0);
        }
        CHECKS.badState(q, "open()", q::open);
        CHECKS.is("digest()", q.digest(), (((((58086L * 31) * 31) * 31) * 31) * 31) * 31 - 1);
    }

    private static void newObjectsAreApart() {
        OrchardQuery one = Make.three();
        Make.read(one, "SELECT 0.0 FROM T0");
        OrchardQuery other = new OrchardQuery();
        CHECKS.is("tables of the other one", other.many(0), 0);
        CHECKS.is("tokens of the other one", other.many(1), 0);
        other.table(2);
        other.row(0, 5, 5, 0);
        CHECKS.is("rows of the first one", one.results(), 3);
    }

    // ---- Promise 2

    private static void columnsAreOneToThree() {
        for (int columns = 1; columns <= 3; columns++) {
            OrchardQuery q = new OrchardQuery();
            CHECKS.is("table(" + columns + ")", q.table(columns), 0);
            CHECKS.is("the last column", q.variety(0, columns - 1), 0);
            int behind = columns;
            CHECKS.noIndex(q, "a column behind", () -> q.variety(0, behind));
        }
    }

    private static void columnsAreNumberedFromZero() {
        OrchardQuery q = Make.tables(3);
        q.row(0, 7, 8, 9);
        q.row(0, 7, 8, 6);
        q.row(0, 7, 5, 4);
        for (int column = 0; column < 3; column++) {
            CHECKS.is("variety(0, " + column + ")", q.variety(0, column), column + 1);
        }
        CHECKS.is("the columns", values(q, 0, 3), "7 8 9, 7 8 6, 7 5 4");
    }

    private static void columnsBelowAndAbove() {
        OrchardQuery q = new OrchardQuery();
        for (int columns : new int[] {LEAST, -3, -1, 0, 4, 5, MOST}) {
            CHECKS.badArgument(q, "table(" + columns + ")", () -> q.table(columns));
        }
        CHECKS.is("tables", q.many(0), 0);
        CHECKS.is("the first one behind that", q.table(3), 0);
    }

    private static void fiveTables() {
        OrchardQuery q = new OrchardQuery();
        for (int t = 0; t < 5; t++) {
            CHECKS.is("its number", q.table(1 + t % 3), t);
            CHECKS.is("tables", q.many(0), t + 1);
        }
    }

    private static void aSixthTable() {
        OrchardQuery q = Make.tables(1, 2, 3, 1, 2);
        for (int columns = 1; columns <= 3; columns++) {
            int c = columns;
            CHECKS.badState(q, "a sixth table(" + columns + ")", () -> q.table(c));
        }
        CHECKS.is("tables", q.many(0), 5);
        CHECKS.noIndex(q, "its row", () -> q.row(5, 0, 0, 0));
        for (int t = 0; t < 5; t++) {
            int table = t;
            int columns = 1 + t % 3;
            CHECKS.is("columns stay", q.variety(t, columns - 1), 0);
            CHECKS.noIndex(q, "columns stay", () -> q.variety(table, columns));
        }
    }

    private static void sixthTableOfBadColumns() {
        OrchardQuery q = Make.tables(1, 1, 1, 1, 1);
        for (int columns : new int[] {LEAST, 0, 4, MOST}) {
            CHECKS.badArgument(q, "a sixth table(" + columns + ")", () -> q.table(columns));
        }
    }

    // ---- Promise 3

    private static void rowGoesToItsTable() {
        OrchardQuery q = Make.tables(1, 1, 1, 1, 1);
        for (int t = 4; t >= 0; t--) {
            CHECKS.is("the first row of " + t, q.row(t, 10 * t, 0, 0), 1);
        }
        for (int t = 0; t < 5; t++) {
            CHECKS.is("the second row of " + t, q.row(t, 10 * t + 1, 0, 0), 2);
        }
        CHECKS.is("the third row of 2", q.row(2, 22, 0, 0), 3);
        for (int t = 0; t < 5; t++) {
            String due = 10 * t + ", " + (10 * t + 1) + (t == 2 ? ", 22" : "");
            CHECKS.is("rows of " + t, values(q, t, 1), due);
        }
    }

    private static void firstSecondAndThird() {
        OrchardQuery q = Make.tables(1, 2, 3);
        for (int t = 0; t < 3; t++) {
            q.row(t, 1, 2, 3);
            q.row(t, -30, 20, -10);
        }
        CHECKS.is("of one column", values(q, 0, 1), "1, -30");
        CHECKS.is("of two columns", values(q, 1, 2), "1 2, -30 20");
        CHECKS.is("of three columns", values(q, 2, 3), "1 2 3, -30 20 -10");
    }

    private static void rowOfNoTable() {
        OrchardQuery q = Make.tables(1, 3);
        for (int table : new int[] {LEAST, -1, 2, 4, 5, MOST}) {
            CHECKS.noIndex(q, "row(" + table + ", ..)", () -> q.row(table, 1, 1, 1));
        }
        CHECKS.is("a row of the last table", q.row(1, 1, 1, 1), 1);
        OrchardQuery five = Make.tables(1, 1, 1, 1, 1);
        CHECKS.is("a row of the fifth", five.row(4, 1, 1, 1), 1);
        CHECKS.noIndex(five, "a row of a sixth", () -> five.row(5, 1, 1, 1));
    }

    private static void rowOfNoTableAndNoValue() {
        OrchardQuery q = Make.sized(14);
        for (int table : new int[] {LEAST, -1, 1, MOST}) {
            CHECKS.noIndex(q, "row(" + table + ", 1000, ..)", () -> q.row(table, 1000, -1000, MOST));
        }
    }

    private static void theLeastAndTheGreatestValue() {
        for (int v : new int[] {-999, 999}) {
            OrchardQuery q = Make.tables(1, 2, 3);
            CHECKS.is("a is " + v, q.row(0, v, 0, 0), 1);
            CHECKS.is("a and b are " + v, q.row(1, v, v, 0), 1);
            CHECKS.is("all are " + v, q.row(2, v, v, v), 1);
            CHECKS.is("values", values(q, 0, 1), "" + v);
            CHECKS.is("values", values(q, 1, 2), v + " " + v);
            CHECKS.is("values", values(q, 2, 3), v + " " + v + " " + v);
        }
    }

    private static void valuesBelowAndAbove() {
        OrchardQuery q = Make.tables(1, 2, 3);
        for (int bad : NO_VALUES) {
            CHECKS.badArgument(q, "one column, a is " + bad, () -> q.row(0, bad, 0, 0));
            CHECKS.badArgument(q, "two columns, a is " + bad, () -> q.row(1, bad, 0, 0));
            CHECKS.badArgument(q, "two columns, b is " + bad, () -> q.row(1, 0, bad, 0));
            CHECKS.badArgument(q, "three columns, a is " + bad, () -> q.row(2, bad, 0, 0));
            CHECKS.badArgument(q, "three columns, b is " + bad, () -> q.row(2, 0, bad, 0));
            CHECKS.badArgument(q, "three columns, c is " + bad, () -> q.row(2, 0, 0, bad));
        }
        for (int t = 0; t < 3; t++) {
            CHECKS.is("the first row behind that", q.row(t, 1, 1, 1), 1);
        }
    }

    private static void notLookedAt() {
        for (int any : NO_VALUES) {
            OrchardQuery q = Make.tables(1, 2);
            CHECKS.is("one column, b is " + any, q.row(0, 1, any, 0), 1);
            CHECKS.is("one column, c is " + any, q.row(0, 2, 0, any), 2);
            CHECKS.is("two columns, c is " + any, q.row(1, 3, 4, any), 1);
            CHECKS.is("values", values(q, 0, 1), "1, 2");
            CHECKS.is("values", values(q, 1, 2), "3 4");
            OrchardQuery same = Make.tables(1, 2);
            same.row(0, 1, 0, 0);
            same.row(0, 2, 0, 0);
            same.row(1, 3, 4, 0);
            q.clear();
            CHECKS.is("digest()", q.digest(), same.digest());
        }
    }

    private static void fourteenRows() {
        OrchardQuery q = Make.tables(1, 2, 3);
        for (int t = 0; t < 3; t++) {
            for (int i = 1; i <= 14; i++) {
                CHECKS.is("row " + i + " of table " + t, q.row(t, i, -i, i), i);
            }
        }
        CHECKS.is("the last one", values(q, 0, 1), "1, 2, 3, 4, 5, 6, 7, 8, 9, 10, 11, 12, 13, 14");
    }

    private static void aFifteenthRow() {
        OrchardQuery q = Make.tables(1, 2, 3);
        for (int t = 0; t < 3; t++) {
            Make.grow(q, t, 14);
            int table = t;
            CHECKS.badState(q, "a fifteenth row", () -> q.row(table, 99, 99, 99));
            CHECKS.badState(q, "and another one", () -> q.row(table, -999, 999, -999));
            CHECKS.is("rows", q.variety(t, 0), 14);
        }
        CHECKS.is("drop", q.drop(0, 0), 13);
        CHECKS.is("a row in the place that came free", q.row(0, 50, 0, 0), 14);
        CHECKS.badState(q, "and one more", () -> q.row(0, 99, 0, 0));
        CHECKS.badState(q, "the others are full still", () -> q.row(1, 99, 0, 0));
    }

    private static void aFifteenthRowOfNoValue() {
        OrchardQuery q = Make.tables(1, 2, 3);
        for (int t = 0; t < 3; t++) {
            Make.grow(q, t, 14);
        }
        for (int bad : NO_VALUES) {
            CHECKS.badArgument(q, "a is " + bad, () -> q.row(0, bad, 0, 0));
            CHECKS.badArgument(q, "b is " + bad, () -> q.row(1, 0, bad, 0));
            CHECKS.badArgument(q, "c is " + bad, () -> q.row(2, 0, 0, bad));
            CHECKS.badState(q, "b is not looked at", () -> q.row(0, 0, bad, bad));
            CHECKS.badState(q, "c is not looked at", () -> q.row(1, 0, 0, bad));
        }
    }

    private static void rowsAlike() {
        OrchardQuery q = Make.tables(2);
        for (int i = 1; i <= 14; i++) {
            CHECKS.is("rows alike", q.row(0, 7, -7, 0), i);
        }
        CHECKS.is("the first column", q.variety(0, 0), 1);
        Make.read(q, "SELECT COUNT SUM 0.0 SUM 0.1 FROM T0");
        CHECKS.is("all are there", Make.results(q), "14 98 -98");
        CHECKS.is("one goes, the others stay", q.drop(0, 3), 13);
        OrchardQuery other = Make.tables(1, 3);
        for (int i = 1; i <= 3; i++) {
            CHECKS.is("rows of one column alike", other.row(0, 5, i, i), i);
            CHECKS.is("rows of three columns alike", other.row(1, 0, 0, 0), i);
        }
        CHECKS.is("all of one column are there", values(other, 0, 1), "5, 5, 5");
        CHECKS.is("all of three columns are there", values(other, 1, 3), "0 0 0, 0 0 0, 0 0 0");
    }

    // ---- Promise 4

    private static void dropOfThatTable() {
        OrchardQuery q = Make.sized(3, 3, 3);
        CHECKS.is("a row of 1", q.drop(1, 0), 2);
        CHECKS.is("a row of 2", q.drop(2, 1), 2);
        CHECKS.is("another row of 2", q.drop(2, 1), 1);
        CHECKS.is("rows of 0", values(q, 0, 1), "0, 1, 2");
        CHECKS.is("rows of 1", values(q, 1, 1), "1, 2");
        CHECKS.is("rows of 2", values(q, 2, 1), "0");
    }

    private static void eachPlaceIsDropped() {
        for (int place = 0; place < 14; place++) {
            OrchardQuery q = Make.sized(14);
            CHECKS.is("drop(0, " + place + ")", q.drop(0, place), 13);
            Make.read(q, "SELECT 0.0 0.2 FROM T0");
            for (int i = 0; i < 13; i++) {
                int due = i < place ? i : i + 1;
                CHECKS.is("the row " + i, q.result(i, 0), due);
                CHECKS.is("its last value", q.result(i, 1), -due);
            }
        }
    }

    private static void dropOfNoTable() {
        OrchardQuery q = Make.sized(2, 1);
        for (int table : new int[] {LEAST, -1, 2, 5, MOST}) {
            CHECKS.noIndex(q, "drop(" + table + ", 0)", () -> q.drop(table, 0));
            CHECKS.noIndex(q, "drop(" + table + ", -1)", () -> q.drop(table, -1));
        }
        CHECKS.is("of the last table", q.drop(1, 0), 0);
    }

    private static void dropOfNoRow() {
        OrchardQuery q = Make.sized(0, 1, 3, 14);
        int[] rows = {0, 1, 3, 14};
        for (int t = 0; t < rows.length; t++) {
            for (int place : new int[] {LEAST, -1, rows[t], rows[t] + 1, 14, 15, MOST}) {
                int table = t;
                CHECKS.noIndex(q, "drop(" + t + ", " + place + ")", () -> q.drop(table, place));
            }
        }
    }

    private static void dropOfTheFirstAndTheLast() {
        OrchardQuery q = Make.sized(14);
        CHECKS.is("the last of 14", q.drop(0, 13), 13);
        CHECKS.is("the first of 13", q.drop(0, 0), 12);
        CHECKS.is("one between", q.drop(0, 5), 11);
        CHECKS.is("what stays, in order", values(q, 0, 1), "1, 2, 3, 4, 5, 7, 8, 9, 10, 11, 12");
        OrchardQuery wide = Make.tables(3);
        for (int i = 0; i < 4; i++) {
            wide.row(0, i, 10 + i, 20 + i);
        }
        CHECKS.is("one of four", wide.drop(0, 1), 3);
        CHECKS.is("whole rows go", values(wide, 0, 3), "0 10 20, 2 12 22, 3 13 23");
    }

    private static void dropOfTheOnlyOne() {
        OrchardQuery q = Make.sized(1, 1);
        CHECKS.is("the only one", q.drop(0, 0), 0);
        CHECKS.noIndex(q, "another one", () -> q.drop(0, 0));
        CHECKS.is("the table stays", q.many(0), 2);
        CHECKS.is("the row of the other table stays", q.variety(1, 0), 1);
        CHECKS.is("a row again", q.row(0, 8, 8, 8), 1);
        CHECKS.is("it alone", values(q, 0, 3), "8 8 8");
    }

    // ---- Promise 5

    private static void varietyWithoutRows() {
        OrchardQuery q = Make.tables(3);
        for (int c = 0; c < 3; c++) {
            CHECKS.is("column " + c, q.variety(0, c), 0);
        }
        q.row(0, 1, 2, 3);
        q.drop(0, 0);
        CHECKS.is("behind a drop", q.variety(0, 0), 0);
    }

    private static void eachValueIsCountedOnce() {
        OrchardQuery q = Make.tables(3);
        for (int i = 0; i < 14; i++) {
            q.row(0, i % 2 == 0 ? i : -i, 5, i / 2);
            CHECKS.is("all different", q.variety(0, 0), i + 1);
            CHECKS.is("all alike", q.variety(0, 1), 1);
            CHECKS.is("two of each", q.variety(0, 2), i / 2 + 1);
        }
        OrchardQuery apart = Make.tables(3);
        for (int i = 0; i < 14; i++) {
            apart.row(0, i % 3, i % 2, i * i % 7);
        }
        CHECKS.is("those alike are apart", apart.variety(0, 0), 3);
        CHECKS.is("by turns", apart.variety(0, 1), 2);
        CHECKS.is("0 1 4 2 2 4 1, twice", apart.variety(0, 2), 4);
        OrchardQuery sign = Make.tables(1);
        sign.row(0, 5, 0, 0);
        sign.row(0, -5, 0, 0);
        sign.row(0, 999, 0, 0);
        sign.row(0, -999, 0, 0);
        sign.row(0, 0, 0, 0);
        CHECKS.is("below and above 0", sign.variety(0, 0), 5);
    }

    private static void varietyBehindDrop() {
        OrchardQuery q = Make.tables(2);
        q.row(0, 4, 1, 0);
        q.row(0, 4, 2, 0);
        q.row(0, 6, 2, 0);
        q.drop(0, 0);
        CHECKS.is("one alike stays", q.variety(0, 0), 2);
        CHECKS.is("the only one went", q.variety(0, 1), 1);
        q.drop(0, 0);
        CHECKS.is("the other one went", q.variety(0, 0), 1);
    }

    private static void varietyOfThatColumn() {
        OrchardQuery q = Make.tables(1, 2, 3);
        for (int i = 0; i < 6; i++) {
            q.row(0, i, 0, 0);
            q.row(1, i / 2, i / 3, 0);
            q.row(2, 0, Math.min(i, 3), Math.min(i, 4));
        }
        int[][] dues = {{6}, {3, 2}, {1, 4, 5}};
        for (int t = 0; t < 3; t++) {
            for (int c = 0; c <= t; c++) {
                CHECKS.is("variety(" + t + ", " + c + ")", q.variety(t, c), dues[t][c]);
            }
        }
    }

    private static void varietyOfNoTable() {
        OrchardQuery q = Make.sized(2, 2);
        for (int table : new int[] {LEAST, -1, 2, 5, MOST}) {
            CHECKS.noIndex(q, "variety(" + table + ", 0)", () -> q.variety(table, 0));
            CHECKS.noIndex(q, "variety(" + table + ", 9)", () -> q.variety(table, 9));
        }
        CHECKS.is("of the last table", q.variety(1, 0), 2);
    }

    private static void varietyOfNoColumn() {
        OrchardQuery q = Make.tables(1, 2, 3);
        for (int t = 0; t < 3; t++) {
            int table = t;
            for (int column : new int[] {LEAST, -1, t + 1, 3, 10, MOST}) {
                CHECKS.noIndex(q, "variety(" + t + ", " + column + ")", () -> q.variety(table, column));
            }
            CHECKS.is("the first column", q.variety(t, 0), 0);
            CHECKS.is("the last column", q.variety(t, t), 0);
        }
    }

    public static void main(String[] args) {
        terms();
        newObjectAndTable();
        rowDropAndVariety();
        CHECKS.end();
    }

    private static void terms() {
        CHECKS.under("Terms");
        CHECKS.sentence("1 TABLES: at most 5, numbered from 0,", TableEdgesTest::fiveTables);
        CHECKS.sentence("1 TABLES: at most 5, numbered from 0,", TableEdgesTest::aSixthTable);
        CHECKS.sentence("each with 1 to 3 COLUMNS,", TableEdgesTest::columnsAreOneToThree);
        CHECKS.sentence("each with 1 to 3 COLUMNS,", TableEdgesTest::columnsBelowAndAbove);
        CHECKS.sentence("COLUMNS, numbered from 0,", TableEdgesTest::columnsAreNumberedFromZero);
        CHECKS.sentence("and at most 14 ROWS", TableEdgesTest::fourteenRows);
        CHECKS.sentence("and at most 14 ROWS", TableEdgesTest::aFifteenthRow);
        CHECKS.sentence("ROWS of VALUES, -999 to 999;", TableEdgesTest::theLeastAndTheGreatestValue);
        CHECKS.sentence("ROWS of VALUES, -999 to 999;", TableEdgesTest::valuesBelowAndAbove);
        CHECKS.sentence("ROWS can be alike.", TableEdgesTest::rowsAlike);
        CHECKS.sentence("The VARIETY of a COLUMN is how many VALUES, each counted once, are in it.",
                TableEdgesTest::eachValueIsCountedOnce);
        CHECKS.sentence("how many VALUES, each counted once, are in it.",
                TableEdgesTest::varietyBehindDrop);
        CHECKS.sentence("the one that is named first is thrown.", TableEdgesTest::sixthTableOfBadColumns);
        CHECKS.sentence("the one that is named first is thrown.", TableEdgesTest::rowOfNoTableAndNoValue);
        CHECKS.sentence("the one that is named first is thrown.", TableEdgesTest::aFifteenthRowOfNoValue);
    }

    private static void newObjectAndTable() {
        CHECKS.under("Promise 1: A new object");
        CHECKS.sentence("Creates an engine without TABLES,", TableEdgesTest::newObjectIsWithoutTables);
        CHECKS.sentence("with an empty QUERY.", TableEdgesTest::newObjectHasAnEmptyQuery);
        CHECKS.sentence("Creates an engine without TABLES, with an empty QUERY.",
                TableEdgesTest::newObjectIsNotRead);
        CHECKS.sentence("Creates an engine", TableEdgesTest::newObjectsAreApart);

        CHECKS.under("Promise 2: table");
        CHECKS.sentence("Adds a TABLE.", TableEdgesTest::fiveTables);
        CHECKS.sentence("`columns`: how many COLUMNS it has", TableEdgesTest::columnsAreOneToThree);
        CHECKS.sentence("Returns its number.", TableEdgesTest::fiveTables);
        CHECKS.sentence("Throws `IllegalArgumentException` if columns is not 1 to 3",
                TableEdgesTest::columnsBelowAndAbove);
        CHECKS.sentence("Throws `IllegalStateException` if there are 5", TableEdgesTest::aSixthTable);
    }

    private static void rowDropAndVariety() {
        CHECKS.under("Promise 3: row");
        CHECKS.sentence("Adds a ROW.", TableEdgesTest::rowGoesToItsTable);
        CHECKS.sentence("`table`: its TABLE", TableEdgesTest::rowGoesToItsTable);
        CHECKS.sentence("`a`: the first VALUE", TableEdgesTest::firstSecondAndThird);
        CHECKS.sentence("`b`: the second one", TableEdgesTest::firstSecondAndThird);
        CHECKS.sentence("(not looked at, if there is no such COLUMN; so the third one)",
                TableEdgesTest::notLookedAt);
        CHECKS.sentence("`c`: the third one", TableEdgesTest::firstSecondAndThird);
        CHECKS.sentence("Returns how many there are then.", TableEdgesTest::fourteenRows);
        CHECKS.sentence("Throws `IndexOutOfBoundsException` if there is no such TABLE",
                TableEdgesTest::rowOfNoTable);
        CHECKS.sentence("Throws `IllegalArgumentException` if one that is looked at is not -999 to 999",
                TableEdgesTest::valuesBelowAndAbove);
        CHECKS.sentence("Throws `IllegalStateException` if there are 14", TableEdgesTest::aFifteenthRow);

        CHECKS.under("Promise 4: drop");
        CHECKS.sentence("Takes a ROW away.", TableEdgesTest::dropOfTheFirstAndTheLast);
        CHECKS.sentence("`table`: the TABLE", TableEdgesTest::dropOfThatTable);
        CHECKS.sentence("`place`: the place of the ROW, from 0", TableEdgesTest::eachPlaceIsDropped);
        CHECKS.sentence("Returns how many there are then.", TableEdgesTest::dropOfTheOnlyOne);
        CHECKS.sentence("Throws `IndexOutOfBoundsException` if there is no such TABLE,",
                TableEdgesTest::dropOfNoTable);
        CHECKS.sentence("no such TABLE, or ROW", TableEdgesTest::dropOfNoRow);

        CHECKS.under("Promise 5: variety");
        CHECKS.sentence("`table`: a TABLE", TableEdgesTest::varietyOfThatColumn);
        CHECKS.sentence("`column`: a COLUMN of it", TableEdgesTest::varietyOfThatColumn);
        CHECKS.sentence("Returns its VARIETY.", TableEdgesTest::varietyWithoutRows);
        CHECKS.sentence("Throws `IndexOutOfBoundsException` if there is no such TABLE,",
                TableEdgesTest::varietyOfNoTable);
        CHECKS.sentence("no such TABLE, or COLUMN", TableEdgesTest::varietyOfNoColumn);
    }
}
