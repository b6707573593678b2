import java.util.Arrays;

/** The edges of how a QUERY is READ, FAULT by FAULT. */
public final class FaultEdgesTest {
    private static final String[] WORDS = {"SELECT", "FROM", "WHERE", "AND", "GROUP", "ORDER", "LIMIT",
        "COUNT", "SUM", "IS", "ISNOT", "LESS"};
    private static final String HEAD = "SELECT 0.0 FROM T0";
    private static final String SIX = HEAD + " WHERE 0.0 IS 1 AND 0.0 ISNOT 2 AND 0.0 LESS 3"
            + " AND 0.0 IS 0.1 AND 0.0 ISNOT 0.1 AND 0.0 LESS 0.1";
    private static final Checks CHECKS = new Checks("FaultEdgesTest");

    private static void fault(OrchardQuery q, int fault, int place, String text) {
        CHECKS.is("read() of " + text, Make.read(q, text), fault);
        CHECKS.is("faultAt() of " + text, q.faultAt(), place);
        CHECKS.is("READ is " + text, q.many(2) > 0, fault == 0);
    }

    /** TABLE 0 has 2 COLUMNS, TABLE 1 has 3, TABLE 2 has 1; there are no others. */
    private static void fault(int fault, int place, String text) {
        fault(Make.three(), fault, place, text);
    }

    private static void good(String... texts) {
        for (String text : texts) {
            fault(Make.three(), 0, -1, text);
        }
    }

    private static String[] and(String[] words, String... more) {
        String[] all = Arrays.copyOf(words, words.length + more.length);
        System.arraycopy(more, 0, all, words.length, more.length);
        return all;
    }

    /** Behind what is there already, all these, and the end, have this FAULT: at once. */
    private static void allOf(int fault, String begun, String... words) {
        int place = Make.tokens(begun).length;
        fault(fault, place, begun);
        for (String word : words) {
            fault(fault, place, begun.isEmpty() ? word : begun + " " + word);
        }
    }

    /** All kinds of TOKENS, but for those that may come. */
    private static String[] allBut(String may) {
        StringBuilder left = new StringBuilder();
        for (String word : and(WORDS, "T0", "T4", "0.0", "9.9", "0", "999")) {
            if (!Arrays.asList(may.split(" ")).contains(word)) {
                left.append(left.length() > 0 ? " " : "").append(word);
            }
        }
        return left.toString().split(" ");
    }

    // ---- 1 to 3: SELECT, ITEMS, FROM

    private static void selectHasToBeThere() {
        allOf(1, "", allBut("SELECT"));
        fault(1, 0, "0.0 FROM T0");
        fault(1, 0, "FROM T0 SELECT 0.0");
    }

    private static void anItemHasToBeThere() {
        allOf(2, "SELECT", allBut("COUNT SUM 0.0 9.9"));
        fault(2, 1, "SELECT FROM T0");
        fault(2, 1, "SELECT SELECT 0.0 FROM T0");
    }

    private static void behindSumAColumn() {
        for (String begun : new String[] {"SELECT SUM", "SELECT 0.0 SUM", "SELECT COUNT COUNT 0.0 SUM"}) {
            allOf(2, begun, allBut("0.0 9.9"));
        }
        fault(2, 2, "SELECT SUM COUNT FROM T0");
        fault(2, 2, "SELECT SUM SUM 0.0 FROM T0");
        good("SELECT SUM 0.0 FROM T0");
    }

    private static void anotherItemOrFrom() {
        for (String begun : new String[] {"SELECT 0.0", "SELECT COUNT", "SELECT SUM 0.0",
            "SELECT 0.0 0.1", "SELECT SUM 0.0 COUNT SUM 0.1"}) {
            allOf(3, begun, allBut("FROM COUNT SUM 0.0 9.9"));
        }
    }

    private static void fromAloneBehindFour() {
        for (String begun : new String[] {"SELECT 0.0 0.1 0.0 0.1", "SELECT COUNT COUNT COUNT COUNT",
            "SELECT SUM 0.0 SUM 0.0 SUM 0.0 SUM 0.0", "SELECT COUNT SUM 0.0 0.0 SUM 0.0"}) {
            allOf(3, begun, allBut("FROM"));
            good(begun + " FROM T0");
        }
        good("SELECT 0.0 FROM T0", "SELECT COUNT 0.0 FROM T0", "SELECT 0.0 0.1 SUM 0.0 FROM T0");
    }

    // ---- 4: TABLES

    private static void oneToFourItems() {
        fault(2, 1, "SELECT FROM T0");
        String items = "";
        for (int n = 1; n <= 4; n++) {
            items = items + (n % 2 == 0 ? " SUM 0.0" : n == 1 ? " 0.1" : " COUNT");
            OrchardQuery q = Make.three();
            fault(q, 0, -1, "SELECT" + items + " FROM T0");
            CHECKS.is("items", q.many(2), n);
            fault(3, Make.tokens("SELECT" + items).length, "SELECT" + items + " T0");
        }
        fault(3, 7, "SELECT" + items + " 0.0 FROM T0");
        fault(1, 0, items.trim() + " FROM T0");
    }

    private static void whatAnItemIs() {
        OrchardQuery q = Make.three();
        fault(q, 0, -1, "SELECT 0.1 FROM T0");
        CHECKS.is("a COLUMN", q.many(2), 1);
        fault(q, 0, -1, "SELECT COUNT FROM T0");
        CHECKS.is("COUNT", q.many(2), 1);
        fault(q, 0, -1, "SELECT SUM 0.1 FROM T0");
        CHECKS.is("SUM and a COLUMN", q.many(2), 1);
        fault(q, 0, -1, "SELECT COUNT 0.1 FROM T0");
        CHECKS.is("COUNT, and a COLUMN", q.many(2), 2);
        fault(q, 0, -1, "SELECT SUM 0.0 0.1 FROM T0");
        CHECKS.is("SUM and a COLUMN, and a COLUMN", q.many(2), 2);
        fault(2, 2, "SELECT SUM FROM T0");
        fault(2, 1, "SELECT 0 FROM T0");
        fault(2, 1, "SELECT T0 FROM T0");
    }

    private static void whatAConditionIs() {
        OrchardQuery q = Make.three();
        int sign = 9;
        for (String word : new String[] {"IS", "ISNOT", "LESS"}) {
            for (String right : new String[] {"0.0", "0.1", "1.2", "0", "7", "999"}) {
                fault(q, 0, -1, "SELECT 0.0 FROM T0 T1 WHERE 0.1 " + word + " " + right);
                CHECKS.is("its left side", q.condition(0, 0), 101);
                CHECKS.is("its sign", q.condition(0, 1), sign);
                CHECKS.is("its right side", q.condition(0, 2), Make.tokens(right)[0]);
            }
            fault(5, 5, HEAD + " WHERE 1 " + word + " 0.0");
            sign++;
        }
        fault(7, 7, HEAD + " WHERE 0.0 IS ISNOT 1");
        fault(7, 7, HEAD + " WHERE 0.0 IS COUNT");
        fault(5, 5, HEAD + " WHERE SUM 0.0 IS 1");
    }

    private static void aTableHasToBeThere() {
        allOf(4, "SELECT 0.0 FROM", allBut("T0"));
        fault(4, 3, "SELECT 0.0 FROM T3");
    }

    private static void aTableThatIsNotThere() {
        fault(new OrchardQuery(), 4, 3, "SELECT 0.0 FROM T0");
        for (int tables = 1; tables <= 5; tables++) {
            OrchardQuery q = new OrchardQuery();
            for (int t = 0; t < tables; t++) {
                q.table(1);
            }
            String last = "T" + (tables - 1);
            fault(q, 0, -1, "SELECT 0.0 FROM " + last);
            fault(q, 0, -1, "SELECT 0.0 FROM T0 " + last);
            fault(q, 0, -1, "SELECT 0.0 FROM T0 T0 " + last);
            if (tables < 5) {
                String none = "T" + tables;
                fault(q, 4, 3, "SELECT 0.0 FROM " + none);
                fault(q, 4, 4, "SELECT 0.0 FROM T0 " + none);
                fault(q, 4, 5, "SELECT 0.0 FROM T0 T0 " + none);
            }
        }
    }

    private static void asLongAsAnotherOneCouldCome() {
        fault(4, 4, "SELECT 0.0 FROM T0 T3");
        fault(4, 4, "SELECT 0.0 FROM T0 T4 T0");
        fault(4, 5, "SELECT 0.0 FROM T0 T0 T3");
        fault(4, 5, "SELECT 0.0 FROM T0 T1 T4 WHERE 0.0 IS 1");
        fault(9, 6, "SELECT 0.0 FROM T0 T0 T0 T3");
        fault(9, 6, "SELECT 0.0 FROM T0 T0 T0 T4");
        fault(9, 6, "SELECT 0.0 FROM T0 T0 T0 T0");
    }

    private static void oneToThreeTables() {
        good("SELECT 0.0 FROM T0", "SELECT 0.0 FROM T0 T1", "SELECT 0.0 FROM T0 T1 T2",
                "SELECT 0.0 FROM T2 T2 T2");
        fault(9, 6, "SELECT 0.0 FROM T0 T1 T2 T1");
    }

    // ---- 5 to 8: CONDITIONS, GROUP, ORDER, LIMIT

    private static void aColumnInACondition() {
        for (String begun : new String[] {HEAD + " WHERE", HEAD + " WHERE 0.0 IS 1 AND",
            HEAD + " WHERE 0.0 IS 0.0 AND 0.0 IS 1 AND"}) {
            allOf(5, begun, allBut("0.0 9.9"));
        }
    }

    private static void aColumnBehindGroup() {
        allOf(5, HEAD + " GROUP", allBut("0.0 9.9"));
        allOf(5, HEAD + " WHERE 0.0 IS 1 GROUP", allBut("0.0 9.9"));
        allOf(5, SIX + " GROUP", allBut("0.0 9.9"));
    }

    private static void isIsNotOrLess() {
        allOf(6, HEAD + " WHERE 0.0", allBut("IS ISNOT LESS"));
        allOf(6, HEAD + " WHERE 0.0 LESS 1 AND 0.1", allBut("IS ISNOT LESS"));
    }

    private static void aColumnOrANumber() {
        for (String sign : new String[] {"IS", "ISNOT", "LESS"}) {
            allOf(7, HEAD + " WHERE 0.0 " + sign, allBut("0.0 9.9 0 999"));
            allOf(7, HEAD + " WHERE 0.0 IS 1 AND 0.0 " + sign, allBut("0.0 9.9 0 999"));
            good(HEAD + " WHERE 0.0 " + sign + " 0.1", HEAD + " WHERE 0.0 " + sign + " 0",
                    HEAD + " WHERE 0.0 " + sign + " 999");
        }
    }

    private static void aNumber() {
        for (String begun : new String[] {HEAD, HEAD + " WHERE 0.0 IS 1", HEAD + " GROUP 0.0"}) {
            allOf(8, begun + " ORDER", allBut("0 999"));
            allOf(8, begun + " LIMIT", allBut("0 999"));
            allOf(8, begun + " ORDER 0 LIMIT", allBut("0 999"));
        }
        good(HEAD + " LIMIT 0", HEAD + " LIMIT 999", HEAD + " ORDER 0");
    }

    // ---- 9: what may come, or the end

    private static void somethingElse(String begun, String may) {
        int place = Make.tokens(begun).length;
        good(begun);
        for (String word : allBut(may)) {
            fault(9, place, begun + " " + word);
            fault(9, place, begun + " " + word + " " + word);
        }
    }

    private static void somethingElseBehindTables() {
        somethingElse("SELECT 0.0 FROM T0", "T0 T4 WHERE GROUP ORDER LIMIT");
        somethingElse("SELECT 0.0 FROM T0 T1", "T0 T4 WHERE GROUP ORDER LIMIT");
        somethingElse("SELECT 0.0 FROM T0 T1 T2", "WHERE GROUP ORDER LIMIT");
    }

    private static void somethingElseBehindConditions() {
        somethingElse(HEAD + " WHERE 0.0 IS 1", "AND GROUP ORDER LIMIT");
        somethingElse(HEAD + " WHERE 0.0 IS 0.1", "AND GROUP ORDER LIMIT");
        somethingElse(HEAD + " WHERE 0.0 IS 1 AND 0.0 LESS 0.1", "AND GROUP ORDER LIMIT");
        somethingElse(SIX, "GROUP ORDER LIMIT");
    }

    private static void oneToSixConditions() {
        String text = HEAD + " WHERE 0.0 IS 1";
        for (int n = 1; n <= 6; n++) {
            OrchardQuery q = Make.three();
            fault(q, 0, -1, text);
            CHECKS.is("conditions", q.many(4), n);
            text = text + " AND 0.0 IS 1";
        }
        fault(9, 4 + 24, text);
        fault(9, 4 + 24, SIX + " AND");
        fault(9, 4 + 24, SIX + " AND 0.0 IS 1");
        fault(9, 4 + 24, SIX + " WHERE 0.0 IS 1");
        fault(9, 4, HEAD + " AND 0.0 IS 1");
        fault(9, 8, HEAD + " WHERE 0.0 IS 1 0.0 IS 1");
        fault(9, 8, HEAD + " WHERE 0.0 IS 1 WHERE 0.0 IS 1");
        fault(5, 5, HEAD + " WHERE");
        fault(5, 5, HEAD + " WHERE GROUP 0.0");
    }

    /** With each of these ahead of it, and behind it: it may be left out. */
    private static void orNot(String piece, String[] ahead, String[] behind) {
        for (String begun : new String[] {HEAD, HEAD + " WHERE 0.0 IS 1", SIX,
            "SELECT 0.0 FROM T0 T1 T2"}) {
            for (String a : ahead) {
                for (String b : behind) {
                    good(begun + a + b, begun + a + piece + b);
                }
            }
        }
    }

    private static void groupOrNot() {
        String[] behind = {"", " ORDER 0", " LIMIT 5", " ORDER 0 LIMIT 5"};
        orNot(" GROUP 0.0", new String[] {""}, behind);
        fault(9, 6, HEAD + " GROUP 0.0 0.1");
        fault(9, 6, HEAD + " ORDER 0 GROUP 0.0");
        fault(5, 5, HEAD + " GROUP 0");
    }

    private static void orderOrNot() {
        orNot(" ORDER 0", new String[] {"", " GROUP 0.0"}, new String[] {"", " LIMIT 5"});
        fault(9, 6, HEAD + " ORDER 0 0");
        fault(9, 6, HEAD + " LIMIT 5 ORDER 0");
        fault(8, 5, HEAD + " ORDER 0.0");
    }

    private static void limitOrNot() {
        String[] ahead = {"", " GROUP 0.0", " ORDER 0", " GROUP 0.0 ORDER 0"};
        orNot(" LIMIT 5", ahead, new String[] {""});
        fault(9, 6, HEAD + " LIMIT 0 0");
        fault(8, 5, HEAD + " LIMIT 0.0");
    }

    private static void inThisOrder() {
        fault(9, 6, HEAD + " ORDER 0 GROUP 0.0");
        fault(9, 6, HEAD + " LIMIT 1 GROUP 0.0");
        fault(9, 6, HEAD + " LIMIT 1 ORDER 0");
        fault(9, 6, HEAD + " GROUP 0.0 WHERE 0.0 IS 1");
        fault(9, 6, HEAD + " GROUP 0.0 GROUP 0.0");
        fault(9, 6, HEAD + " ORDER 0 ORDER 0");
        fault(9, 6, HEAD + " LIMIT 1 LIMIT 1");
        fault(9, 10, HEAD + " GROUP 0.0 ORDER 0 LIMIT 1 GROUP 0.0");
    }

    private static void somethingElseBehindGroupAndOrder() {
        somethingElse(HEAD + " GROUP 0.0", "ORDER LIMIT");
        somethingElse(HEAD + " ORDER 0", "LIMIT");
        somethingElse(HEAD + " GROUP 0.0 ORDER 0", "LIMIT");
    }

    private static void andNoMore() {
        somethingElse(HEAD + " LIMIT 1", "");
        somethingElse(HEAD + " GROUP 0.0 ORDER 0 LIMIT 1", "");
    }

    // ---- 10 and 11

    /** At each place where a COLUMN can be: @ stands for it. */
    private static void everyPlace(int fault, String column) {
        String[] places = {"SELECT @ FROM T0 T1", "SELECT SUM @ FROM T0 T1",
            "SELECT 0.0 COUNT SUM 0.1 @ FROM T0 T1", "SELECT COUNT COUNT COUNT SUM @ FROM T0 T1",
            "SELECT 0.0 FROM T0 T1 WHERE @ IS 1", "SELECT 0.0 FROM T0 T1 WHERE 0.0 LESS @",
            "SELECT 0.0 FROM T0 T1 WHERE 0.0 ISNOT 1 AND @ LESS 0.0",
            "SELECT 0.0 FROM T0 T1 WHERE 0.0 ISNOT 1 AND 0.0 IS @", "SELECT 0.0 FROM T0 T1 GROUP @",
            "SELECT COUNT FROM T0 T1 WHERE 0.0 IS 1 GROUP @ ORDER 0 LIMIT 1"};
        for (String place : places) {
            int at = Arrays.asList(place.split(" ")).indexOf("@");
            fault(fault, fault == 0 ? -1 : at, place.replace("@", column));
        }
    }

    private static void seatIsNotThere() {
        for (String column : new String[] {"2.0", "3.0", "9.0", "9.9"}) {
            everyPlace(10, column);
        }
        everyPlace(0, "1.0");
        fault(10, 1, "SELECT 1.0 FROM T1");
        fault(10, 1, "SELECT 2.0 FROM T0 T1");
        fault(10, 1, "SELECT 3.0 FROM T0 T1 T2");
        good("SELECT 0.0 FROM T1", "SELECT 1.0 FROM T0 T1", "SELECT 2.0 FROM T0 T1 T2");
        OrchardQuery q = Make.three();
        fault(q, 0, -1, "SELECT 2.0 FROM T0 T1 T2");
        fault(q, 10, 1, "SELECT 2.0 FROM T0 T1");
        fault(q, 10, 1, "SELECT 1.0 FROM T0");
        fault(q, 10, 7, "SELECT 0.0 FROM T0 WHERE 0.0 IS 1.0");
    }

    private static void hasNoSuchColumn() {
        for (String column : new String[] {"0.2", "0.3", "0.9", "1.3", "1.9"}) {
            everyPlace(10, column);
        }
        for (String column : new String[] {"0.0", "0.1", "1.0", "1.2"}) {
            everyPlace(0, column);
        }
        fault(10, 1, "SELECT 0.1 FROM T2");
        fault(10, 1, "SELECT 0.2 FROM T0");
        fault(10, 1, "SELECT 0.3 FROM T1");
        good("SELECT 0.0 FROM T2", "SELECT 0.1 FROM T0", "SELECT 0.2 FROM T1");
    }

    /** The COLUMNS are those of the SEAT, not those of the TABLE with its number. */
    private static void columnsOfTheSeat() {
        good("SELECT 0.2 FROM T1 T0", "SELECT 1.2 0.0 FROM T2 T1", "SELECT 2.1 FROM T2 T2 T0");
        fault(10, 1, "SELECT 1.2 FROM T1 T0");
        fault(10, 1, "SELECT 0.1 FROM T2 T1");
        fault(10, 1, "SELECT 1.1 FROM T0 T2");
    }

    private static void fromLeftToRight() {
        fault(10, 1, "SELECT 0.2 0.3 FROM T0 WHERE 1.0 IS 2.0 GROUP 3.0");
        fault(10, 2, "SELECT 0.0 0.3 FROM T0 WHERE 1.0 IS 2.0 GROUP 3.0");
        fault(10, 6, "SELECT 0.0 0.1 FROM T0 WHERE 1.0 IS 2.0 GROUP 3.0");
        fault(10, 8, "SELECT 0.0 0.1 FROM T0 WHERE 0.0 IS 2.0 GROUP 3.0");
        fault(10, 10, "SELECT 0.0 0.1 FROM T0 WHERE 0.0 IS 0.1 GROUP 3.0");
    }

    private static void whenAllCouldBeReadSo() {
        fault(2, 2, "SELECT SUM FROM T0 9.9");
        fault(3, 2, "SELECT 9.9 T0");
        fault(4, 3, "SELECT 9.9 FROM T3");
        fault(5, 5, "SELECT 9.9 FROM T0 WHERE");
        fault(6, 6, "SELECT 0.0 FROM T0 WHERE 9.9 GROUP");
        fault(7, 7, "SELECT 0.0 FROM T0 WHERE 9.9 IS");
        fault(8, 5, "SELECT 9.9 FROM T0 LIMIT");
        fault(9, 4, "SELECT 9.9 FROM T0 SELECT");
        fault(8, 7, "SELECT 9.9 FROM T0 ORDER 9 LIMIT");
        fault(9, 6, "SELECT 0.0 FROM T0 ORDER 9 GROUP");
    }

    private static void thereIsNoSuchItem() {
        String[] items = {"0.0", "0.0 COUNT", "SUM 0.0 COUNT 0.1", "SUM 0.0 SUM 0.1 COUNT 0.0"};
        for (int n = 1; n <= 4; n++) {
            String head = "SELECT " + items[n - 1] + " FROM T0";
            int place = Make.tokens(head).length + 1;
            for (int item = 0; item < n; item++) {
                good(head + " ORDER " + item, head + " ORDER " + item + " LIMIT 1");
            }
            for (int item : new int[] {n, n + 1, 4, 5, 999}) {
                fault(11, place, head + " ORDER " + item);
                fault(11, place, head + " ORDER " + item + " LIMIT 0");
                fault(11, place + 2, head + " GROUP 0.0 ORDER " + item);
            }
        }
    }

    private static void columnsAreLookedAtFirst() {
        fault(10, 1, "SELECT 9.9 FROM T0 ORDER 9");
        fault(10, 5, "SELECT 0.0 FROM T0 GROUP 0.2 ORDER 1");
        fault(11, 7, "SELECT 0.0 FROM T0 GROUP 0.1 ORDER 1");
    }

    private static void theFirstThatCannotBeThere() {
        fault(1, 0, "FROM SELECT SUM WHERE");
        fault(2, 1, "SELECT LIMIT FROM FROM");
        fault(4, 3, "SELECT 0.0 FROM FROM T0 9.9");
        fault(9, 4, "SELECT 0.0 FROM T0 AND 0.0 LIMIT");
        fault(8, 5, "SELECT 0.0 FROM T0 ORDER LIMIT 9 9");
    }

    /** At the end, if anything else is missing than what may be left out. */
    private static void oneIsMissing() {
        String text = "SELECT SUM 0.0 FROM T0 WHERE 0.0 IS 1 AND 0.1 LESS 7 GROUP 0.0 ORDER 0 LIMIT 3";
        int[] faults = {1, 2, 2, 3, 4, 0, 5, 6, 7, 0, 5, 6, 7, 0, 5, 0, 8, 0, 8, 0};
        int[] tokens = Make.tokens(text);
        for (int n = 0; n <= tokens.length; n++) {
            OrchardQuery q = Make.three();
            CHECKS.is("read() of the first " + n, Make.read(q, Arrays.copyOf(tokens, n)), faults[n]);
            CHECKS.is("faultAt()", q.faultAt(), faults[n] == 0 ? -1 : n);
        }
    }

    // ---- all that is near good queries, against the model

    private static void near(Model model, OrchardQuery q, int[] tokens) {
        model.clear();
        for (int token : tokens) {
            model.token(token);
        }
        String text = Arrays.toString(tokens);
        CHECKS.is("read() of " + text, Make.read(q, tokens), model.read());
        CHECKS.is("faultAt() of " + text, q.faultAt(), model.faultAt());
    }

    private static int[] changed(int[] tokens, int place, int skipped, int... put) {
        int[] end = Arrays.copyOfRange(tokens, place + skipped, tokens.length);
        return Make.all(Arrays.copyOf(tokens, place), put, end);
    }

    private static void everyChange(String text) {
        int[] tokens = Make.tokens(text);
        int[] kinds = {0, 1, 2, 3, 4, 5, 6, 7, 8, 9, 10, 11, 20, 23, 100, 102, 121, 199, 1000, 1004};
        for (int place = 0; place <= tokens.length; place++) {
            Model model = new Model();
            model.table(2);
            model.table(3);
            model.table(1);
            for (int i = -1; i < kinds.length; i++) {
                OrchardQuery q = Make.three();
                if (i < 0) {
                    near(model, q, Arrays.copyOf(tokens, place));
                    if (place < tokens.length) {
                        near(model, q, changed(tokens, place, 1));
                    }
                    continue;
                }
                near(model, q, changed(tokens, place, 0, kinds[i]));
                if (place < tokens.length) {
                    near(model, q, changed(tokens, place, 1, kinds[i]));
                }
            }
        }
    }

    private static void allThatIsNear() {
        everyChange("SELECT 0.0 FROM T0");
        everyChange("SELECT COUNT SUM 1.2 0.1 SUM 2.0 FROM T0 T1 T2");
        everyChange("SELECT 0.0 0.1 FROM T0 T1 WHERE 0.0 IS 1.0 AND 1.2 LESS 7 GROUP 1.1 ORDER 1 LIMIT 3");
        everyChange(SIX);
        everyChange("SELECT 0.0 FROM T2 ORDER 0 LIMIT 9");
    }

    public static void main(String[] args) {
        CHECKS.under("Terms");
        whatItIs();
        headFaults();
        tailFaults();
        columnFaults();
        CHECKS.end();
    }

    private static void whatItIs() {
        CHECKS.sentence("A SEAT is a TABLE named behind FROM, numbered from 0 as they come.",
                FaultEdgesTest::columnsOfTheSeat);
        CHECKS.sentence("It is: SELECT, 1 to 4 ITEMS, FROM,", FaultEdgesTest::oneToFourItems);
        CHECKS.sentence("1 to 3 TABLES;", FaultEdgesTest::oneToThreeTables);
        CHECKS.sentence("then, if there are CONDITIONS, WHERE, and 1 to 6 of them with AND between two;",
                FaultEdgesTest::oneToSixConditions);
        CHECKS.sentence("then, or not, GROUP and a COLUMN;", FaultEdgesTest::groupOrNot);
        CHECKS.sentence("then, or not, ORDER and a NUMBER;", FaultEdgesTest::orderOrNot);
        CHECKS.sentence("then, or not, LIMIT and a NUMBER;", FaultEdgesTest::limitOrNot);
        CHECKS.sentence("and no more.", FaultEdgesTest::andNoMore);
        CHECKS.sentence("and no more.", FaultEdgesTest::inThisOrder);
        CHECKS.sentence("An ITEM is a COLUMN, or COUNT, or SUM and a COLUMN.",
                FaultEdgesTest::whatAnItemIs);
        CHECKS.sentence("A CONDITION is a COLUMN, IS, IS NOT or LESS, and a COLUMN or a NUMBER.",
                FaultEdgesTest::whatAConditionIs);
        CHECKS.sentence("It is READ from left to right;", FaultEdgesTest::allThatIsNear);
        CHECKS.sentence("at the first TOKEN that cannot be there, or at the end, if one is missing,"
                + " there is a FAULT:", FaultEdgesTest::theFirstThatCannotBeThere);
        CHECKS.sentence("or at the end, if one is missing,", FaultEdgesTest::oneIsMissing);
    }

    private static void headFaults() {
        CHECKS.sentence("1, if SELECT has to be there;", FaultEdgesTest::selectHasToBeThere);
        CHECKS.sentence("2, an ITEM", FaultEdgesTest::anItemHasToBeThere);
        CHECKS.sentence("(also behind SUM: a COLUMN);", FaultEdgesTest::behindSumAColumn);
        CHECKS.sentence("3, another ITEM or FROM", FaultEdgesTest::anotherItemOrFrom);
        CHECKS.sentence("(FROM alone behind four);", FaultEdgesTest::fromAloneBehindFour);
        CHECKS.sentence("4, a TABLE that is there", FaultEdgesTest::aTableHasToBeThere);
        CHECKS.sentence("(a TABLE that is not there, too,", FaultEdgesTest::aTableThatIsNotThere);
        CHECKS.sentence("as long as another one could come);",
                FaultEdgesTest::asLongAsAnotherOneCouldCome);
    }

    private static void tailFaults() {
        CHECKS.sentence("5, a COLUMN (in a CONDITION,", FaultEdgesTest::aColumnInACondition);
        CHECKS.sentence("or behind GROUP);", FaultEdgesTest::aColumnBehindGroup);
        CHECKS.sentence("6, IS, IS NOT or LESS;", FaultEdgesTest::isIsNotOrLess);
        CHECKS.sentence("7, a COLUMN or a NUMBER;", FaultEdgesTest::aColumnOrANumber);
        CHECKS.sentence("8, a NUMBER;", FaultEdgesTest::aNumber);
        CHECKS.sentence("9, something else (what may come there, or the end).",
                FaultEdgesTest::somethingElseBehindTables);
        CHECKS.sentence("9, something else (what may come there, or the end).",
                FaultEdgesTest::somethingElseBehindConditions);
        CHECKS.sentence("9, something else (what may come there, or the end).",
                FaultEdgesTest::somethingElseBehindGroupAndOrder);
    }

    private static void columnFaults() {
        CHECKS.sentence("When all could be read so,", FaultEdgesTest::whenAllCouldBeReadSo);
        CHECKS.sentence("the COLUMNS are looked at, from left to right:", FaultEdgesTest::fromLeftToRight);
        CHECKS.sentence("the FAULT 10, at the first one whose SEAT is not there,",
                FaultEdgesTest::seatIsNotThere);
        CHECKS.sentence("or has no such COLUMN;", FaultEdgesTest::hasNoSuchColumn);
        CHECKS.sentence("then the NUMBER of ORDER:", FaultEdgesTest::columnsAreLookedAtFirst);
        CHECKS.sentence("the FAULT 11, there, if there is no such ITEM (they are numbered from 0).",
                FaultEdgesTest::thereIsNoSuchItem);
    }
}
