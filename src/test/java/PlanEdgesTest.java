import java.util.function.IntConsumer;

/** The edges of the PLAN, of its RULES, its ORDER and its GUESSES: promises 11 to 18. */
public final class PlanEdgesTest {
    private static final int LEAST = Integer.MIN_VALUE;
    private static final int MOST = Integer.MAX_VALUE;
    private static final int TRUE = 0;
    private static final int DRAWN = 1;
    private static final int DOWN = 2;
    private static final int NEVER = 3;
    private static final Checks CHECKS = new Checks("PlanEdgesTest");

    private static OrchardQuery three(String text) {
        OrchardQuery q = Make.three();
        CHECKS.is("read() of " + text, Make.read(q, text), 0);
        return q;
    }

    /** Two TABLES of three COLUMNS with two ROWS each. */
    private static OrchardQuery two(String conditions) {
        OrchardQuery q = Make.sized(2, 2);
        CHECKS.is("read() of " + conditions,
                Make.read(q, "SELECT 0.0 FROM T0 T1 WHERE " + conditions), 0);
        return q;
    }

    /** The CONDITIONS from this number on, as texts, divided by commas. */
    private static String conditions(OrchardQuery q, int from) {
        String[] signs = {"IS", "ISNOT", "LESS"};
        StringBuilder text = new StringBuilder();
        for (int i = from; i < q.many(4); i++) {
            int right = q.condition(i, 2);
            text.append(i > from ? ", " : "").append(column(q.condition(i, 0))).append(' ')
                    .append(signs[q.condition(i, 1) - 9]).append(' ')
                    .append(right < 1000 ? column(right) : "" + (right - 1000));
        }
        return text.toString();
    }

    private static String column(int token) {
        return token / 10 % 10 + "." + token % 10;
    }

    /** One number of each CONDITION: condition(.., what). */
    private static String each(OrchardQuery q, int what) {
        StringBuilder text = new StringBuilder();
        for (int i = 0; i < q.many(4); i++) {
            text.append(i > 0 ? " " : "").append(q.condition(i, what));
        }
        return text.toString();
    }

    private static String levels(OrchardQuery q) {
        return each(q, 3);
    }

    private static String order(OrchardQuery q) {
        StringBuilder text = new StringBuilder();
        for (int i = 0; i < q.many(3); i++) {
            text.append(i > 0 ? " " : "").append(q.order(i));
        }
        return text.toString();
    }

    private static void outside(OrchardQuery q, String call, int size, IntConsumer to) {
        for (int place : new int[] {LEAST, -1, size, size + 1, 14, MOST}) {
            CHECKS.noIndex(q, call + " of " + place, () -> to.accept(place));
        }
    }

    private static void notTo(OrchardQuery q, String call, int last, IntConsumer to) {
        for (int what : new int[] {LEAST, -1, last + 1, last + 2, MOST}) {
            CHECKS.badArgument(q, call + " of " + what, () -> to.accept(what));
        }
    }

    // ---- the PLAN at first

    private static void levelAtFirst() {
        String[] from = {"T0", "T0 T1", "T0 T1 T2"};
        for (int n = 1; n <= 3; n++) {
            OrchardQuery q = three("SELECT 0.0 FROM " + from[n - 1] + " WHERE 0.0 IS 1 AND 0.0 IS 0.1");
            CHECKS.is("levels with " + n, levels(q), (n - 1) + " " + (n - 1));
            CHECKS.is("lows with " + n, each(q, 4), "0 0");
        }
        OrchardQuery q = three("SELECT 0.0 FROM T0 T1 T2 WHERE 1.0 IS 1 AND 2.0 LESS 1.0 AND 0.1 ISNOT 9");
        CHECKS.is("levels", levels(q), "2 2 2");
    }

    private static void orderAtFirst() {
        CHECKS.is("of one", order(three("SELECT 0.0 FROM T2")), "0");
        CHECKS.is("of two", order(three("SELECT 0.0 FROM T2 T1")), "0 1");
        CHECKS.is("of three", order(three("SELECT 0.0 FROM T2 T1 T0")), "0 1 2");
        OrchardQuery q = three("SELECT 0.0 FROM T2 T1 T0");
        q.swap(0, 2);
        q.read();
        CHECKS.is("as it is READ again", order(q), "0 1 2");
        q.swap(0, 1);
        Make.read(q, "SELECT 0.0 FROM T0 T1");
        CHECKS.is("of another one", order(q), "0 1");
    }

    private static void notEmptyAtFirst() {
        CHECKS.is("isEmpty()", three("SELECT 0.0 FROM T0").isEmpty(), false);
        CHECKS.is("isEmpty() of what never holds",
                three("SELECT 0.0 FROM T0 WHERE 0.0 IS 1 AND 0.0 IS 2 AND 0.0 LESS 0.0").isEmpty(), false);
        OrchardQuery again = three("SELECT 0.0 FROM T0 WHERE 0.0 LESS 0.0");
        again.rewrite(NEVER);
        again.read();
        CHECKS.is("isEmpty() as it is READ again", again.isEmpty(), false);
        OrchardQuery none = Make.sized(0);
        Make.read(none, "SELECT 0.0 FROM T0 T0 T0");
        CHECKS.is("isEmpty() without rows", none.isEmpty(), false);
        none.rewrite(NEVER);
        CHECKS.is("isEmpty() without rows, behind NEVER", none.isEmpty(), false);
    }

    /** Whatever else is asked for, or is not there: by NEVER alone it becomes EMPTY. */
    private static void emptyByNeverAlone() {
        for (String tail : new String[] {"", " LIMIT 0", " GROUP 0.0", " ORDER 0 LIMIT 0"}) {
            OrchardQuery q = three("SELECT 0.0 FROM T0 WHERE 0.0 IS 1 AND 0.0 IS 2" + tail);
            CHECKS.is("isEmpty() at first" + tail, q.isEmpty(), false);
            q.rewrite(TRUE);
            q.rewrite(DRAWN);
            q.rewrite(DOWN);
            q.best();
            q.results();
            CHECKS.is("isEmpty() behind all but NEVER" + tail, q.isEmpty(), false);
            q.rewrite(NEVER);
            CHECKS.is("isEmpty() behind NEVER" + tail, q.isEmpty(), true);
            q.rewrite(TRUE);
            q.rewrite(DRAWN);
            q.rewrite(DOWN);
            CHECKS.is("isEmpty() behind other RULES" + tail, q.isEmpty(), true);
            q.read();
            CHECKS.is("isEmpty() behind read()" + tail, q.isEmpty(), false);
        }
    }

    private static void numberedAsTheyCome() {
        String text = "0.0 IS 1, 1.2 ISNOT 999, 0.1 LESS 0, 2.0 IS 1.0, 0.0 ISNOT 2.0, 1.1 LESS 0.1";
        OrchardQuery q = three("SELECT 0.0 FROM T0 T1 T2 WHERE " + text.replace(",", " AND"));
        CHECKS.is("six conditions", conditions(q, 0), text);
        outside(q, "condition()", 6, i -> q.condition(i, 0));
        CHECKS.is("signs", each(q, 1), "9 10 11 9 10 11");
        CHECKS.is("left sides", each(q, 0), "100 112 101 120 100 111");
        CHECKS.is("right sides", each(q, 2), "1001 1999 1000 110 120 101");
    }

    private static void lowIsTheGreatestPlace() {
        OrchardQuery q = three("SELECT 0.0 FROM T0 T1 T2 WHERE 0.0 IS 1 AND 1.0 IS 1 AND 2.0 IS 1"
                + " AND 0.0 IS 1.0 AND 2.0 IS 1.0 AND 2.0 IS 0.0");
        CHECKS.is("lows of 0 1 2", each(q, 4), "0 1 2 1 2 2");
        q.swap(0, 1);
        CHECKS.is("lows of 1 0 2", each(q, 4), "1 0 2 1 2 2");
        q.swap(1, 2);
        CHECKS.is("lows of 1 2 0", each(q, 4), "2 0 1 2 1 2");
        q.swap(0, 1);
        CHECKS.is("lows of 2 1 0", each(q, 4), "2 1 0 2 1 2");
        q.swap(1, 2);
        CHECKS.is("lows of 2 0 1", each(q, 4), "1 2 0 2 2 1");
        q.swap(0, 1);
        CHECKS.is("lows of 0 2 1", each(q, 4), "0 2 1 2 2 1");
    }

    // ---- Promise 11

    private static void noSuchCondition() {
        OrchardQuery none = three("SELECT 0.0 FROM T0");
        outside(none, "condition()", 0, i -> none.condition(i, 0));
        OrchardQuery one = three("SELECT 0.0 FROM T0 WHERE 0.0 IS 1");
        outside(one, "condition()", 1, i -> one.condition(i, 5));
        CHECKS.is("the only one", one.condition(0, 0), 100);
        OrchardQuery twelve = two("0.0 IS 0.1 AND 0.1 IS 0.2 AND 0.2 IS 1.0"
                + " AND 0.0 IS 1 AND 0.0 IS 2 AND 0.0 IS 3");
        outside(twelve, "condition()", 6, i -> twelve.condition(i, 0));
        twelve.rewrite(DRAWN);
        CHECKS.is("the last of twelve", twelve.condition(11, 1), 9);
        outside(twelve, "condition()", 12, i -> twelve.condition(i, 0));
    }

    private static void whatOfACondition() {
        OrchardQuery q = three("SELECT 0.0 FROM T0 T1 WHERE 0.1 IS 7");
        int[] due = {101, 9, 1007, 1, 0, 500};
        for (int what = 0; what <= 5; what++) {
            CHECKS.is("condition(0, " + what + ")", q.condition(0, what), due[what]);
        }
        OrchardQuery other = three("SELECT 0.0 FROM T1 T2 T0 WHERE 1.0 ISNOT 0.2 AND 2.1 LESS 1.0"
                + " AND 0.0 IS 0");
        other.rewrite(DOWN);
        int[][] dues = {{110, 10, 102, 1, 1, 667}, {121, 11, 110, 2, 2, 333}, {100, 9, 1000, 0, 0, 333}};
        for (int i = 0; i < dues.length; i++) {
            for (int what = 0; what <= 5; what++) {
                CHECKS.is("condition(" + i + ", " + what + ")", other.condition(i, what), dues[i][what]);
            }
        }
    }

    private static void whatOfNoCondition() {
        OrchardQuery q = three("SELECT 0.0 FROM T0 T1 WHERE 0.1 IS 7");
        notTo(q, "condition(0, ..)", 5, what -> q.condition(0, what));
        for (int what : new int[] {LEAST, -1, 6, MOST}) {
            outside(q, "condition(.., " + what + ")", 1, i -> q.condition(i, what));
        }
    }

    // ---- PART

    private static void partOfIsAndIsNot() {
        int[] parts = {1000, 1000, 500, 333, 250, 200, 166, 142, 125, 111, 100, 90, 83, 76, 71};
        for (int variety = 0; variety <= 14; variety++) {
            OrchardQuery q = Make.sized(variety, 14);
            Make.read(q, "SELECT 0.0 FROM T0 T1 WHERE 0.0 IS 5 AND 0.0 ISNOT 5 AND 0.0 IS 0.1"
                    + " AND 0.2 ISNOT 0.0 AND 0.0 LESS 5 AND 0.1 LESS 0.0");
            int part = parts[variety];
            CHECKS.is("parts with the variety " + variety, each(q, 5),
                    part + " " + (1000 - part) + " " + part + " " + (1000 - part) + " 333 333");
        }
    }

    private static void partOfLess() {
        for (int rows : new int[] {0, 1, 2, 3, 4, 14}) {
            OrchardQuery q = Make.sized(rows, 14 - rows);
            Make.read(q, "SELECT 0.0 FROM T0 T1 WHERE 0.0 LESS 0 AND 0.0 LESS 999 AND 0.0 LESS 0.1"
                    + " AND 0.0 LESS 0.0 AND 1.0 LESS 0.0 AND 1.1 LESS 5");
            CHECKS.is("parts with " + rows, each(q, 5), "333 333 333 333 333 333");
        }
    }

    private static void cutTowardsZero() {
        OrchardQuery q = Make.sized(6, 11);
        Make.read(q, "SELECT 0.0 FROM T0 T1 WHERE 0.0 IS 1 AND 1.0 IS 1");
        CHECKS.is("1000 / 6 and 1000 / 11", each(q, 5), "166 90");
        // 66 * 166 / 1000 = 10.956, 10 * 90 / 1000 = 0.9
        CHECKS.is("guess(1)", q.guess(1), 0);
        Make.read(q, "SELECT 0.0 FROM T0 T1 WHERE 0.0 IS 1");
        CHECKS.is("guess(1) of one", q.guess(1), 10);
    }

    private static void theGreaterVarietyOfBoth() {
        OrchardQuery q = Make.sized(3, 7, 0);
        Make.read(q, "SELECT 0.0 FROM T0 T1 T2 WHERE 0.0 IS 1.0 AND 1.0 IS 0.0 AND 0.0 ISNOT 1.0"
                + " AND 2.0 IS 0.0 AND 0.0 IS 2.0 AND 1.1 ISNOT 2.0");
        CHECKS.is("parts", each(q, 5), "142 142 858 333 333 0");
    }

    private static void ifTheVarietyIsZero() {
        OrchardQuery q = Make.tables(2, 1);
        Make.read(q, "SELECT 0.0 FROM T0 T1 WHERE 0.0 IS 5 AND 0.0 ISNOT 5 AND 0.0 LESS 5"
                + " AND 0.0 IS 1.0 AND 0.0 ISNOT 1.0 AND 0.0 LESS 1.0");
        CHECKS.is("parts", each(q, 5), "1000 0 333 1000 0 333");
        q.row(1, 1, 0, 0);
        q.row(1, 2, 0, 0);
        CHECKS.is("parts, the variety of one is 0", each(q, 5), "1000 0 333 500 500 333");
        q.drop(1, 0);
        q.drop(1, 0);
        CHECKS.is("parts, as at first", each(q, 5), "1000 0 333 1000 0 333");
    }

    // ---- TRUE

    private static void theSameColumnTwiceGoes() {
        OrchardQuery q = three("SELECT 0.0 FROM T0 T1 WHERE 0.0 IS 0.0 AND 0.0 IS 1.0 AND 0.1 IS 0.1"
                + " AND 0.1 ISNOT 0.1 AND 0.1 LESS 0.1 AND 1.0 IS 1.0");
        CHECKS.is("TRUE", q.rewrite(TRUE), 3);
        CHECKS.is("what stays", conditions(q, 0), "0.0 IS 1.0, 0.1 ISNOT 0.1, 0.1 LESS 0.1");
        CHECKS.is("TRUE again", q.rewrite(TRUE), 0);
        outside(q, "condition()", 3, i -> q.condition(i, 0));
    }

    private static void noneAndAllOfThemGo() {
        OrchardQuery none = three("SELECT 0.0 FROM T0");
        CHECKS.is("TRUE of none", none.rewrite(TRUE), 0);
        OrchardQuery all = three("SELECT 0.0 FROM T0 WHERE 0.0 IS 0.0 AND 0.0 IS 0.0 AND 0.1 IS 0.1"
                + " AND 0.0 IS 0.0 AND 0.1 IS 0.1 AND 0.1 IS 0.1");
        CHECKS.is("TRUE of six", all.rewrite(TRUE), 6);
        CHECKS.is("conditions", all.many(4), 0);
        outside(all, "condition()", 0, i -> all.condition(i, 0));
    }

    private static void theSameColumnOfAnotherSeatStays() {
        OrchardQuery q = three("SELECT 0.0 FROM T0 T0 WHERE 0.0 IS 1.0 AND 0.0 IS 0.1 AND 0.0 IS 0");
        CHECKS.is("TRUE", q.rewrite(TRUE), 0);
        CHECKS.is("conditions", q.many(4), 3);
    }

    private static void thoseBehindItAreOneLess() {
        OrchardQuery q = three("SELECT 0.0 FROM T0 T1 T2 WHERE 0.0 IS 1 AND 0.0 IS 0.0 AND 1.0 LESS 2"
                + " AND 2.0 ISNOT 3");
        q.rewrite(DOWN);
        CHECKS.is("levels", levels(q), "0 0 1 2");
        CHECKS.is("TRUE", q.rewrite(TRUE), 1);
        CHECKS.is("what stays", conditions(q, 0), "0.0 IS 1, 1.0 LESS 2, 2.0 ISNOT 3");
        CHECKS.is("their levels", levels(q), "0 1 2");
        OrchardQuery twelve = two("0.0 IS 0.0 AND 0.0 IS 0.1 AND 0.1 IS 1.0 AND 0.0 IS 1 AND 0.0 IS 2"
                + " AND 0.0 IS 3");
        CHECKS.is("DRAWN", twelve.rewrite(DRAWN), 6);
        String behind = conditions(twelve, 1);
        CHECKS.is("TRUE of twelve", twelve.rewrite(TRUE), 1);
        CHECKS.is("eleven stay", conditions(twelve, 0), behind);
        CHECKS.is("conditions", twelve.many(4), 11);
    }

    // ---- DRAWN

    private static void drawn(String conditions, String due) {
        OrchardQuery q = two(conditions.replace(",", " AND"));
        int before = q.many(4);
        int times = due.isEmpty() ? 0 : due.split(",").length;
        CHECKS.is("DRAWN from " + conditions, q.rewrite(DRAWN), times);
        CHECKS.is("what is drawn from " + conditions, conditions(q, before), due);
        CHECKS.is("what was there", conditions(q, 0).startsWith(conditions), true);
        CHECKS.is("DRAWN again", q.rewrite(DRAWN), 0);
    }

    private static void drawnEitherWayRound() {
        drawn("0.0 IS 0.1, 0.0 IS 5", "0.1 IS 5");
        drawn("0.0 IS 0.1, 0.1 IS 5", "0.0 IS 5");
        drawn("0.0 IS 5, 0.1 IS 0.0", "0.1 IS 5");
        drawn("0.1 IS 5, 1.2 IS 0.1", "1.2 IS 5");
        drawn("1.0 IS 0.0, 1.0 IS 0", "0.0 IS 0");
        drawn("1.0 IS 0.0, 1.0 IS 999", "0.0 IS 999");
    }

    private static void drawnFromOtherColumns() {
        drawn("0.0 IS 0.0, 0.0 IS 5", "");
        drawn("0.0 IS 1.0, 0.1 IS 5", "");
        drawn("0.0 IS 1.0, 1.1 IS 5, 0.2 IS 5", "");
        drawn("0.0 IS 0.0, 0.0 IS 1.0, 0.0 IS 5", "1.0 IS 5");
    }

    /** Two SEATS of one TABLE have no COLUMN in common. */
    private static void otherTokensOfOneTable() {
        String head = "SELECT 0.0 FROM T0 T0 WHERE ";
        OrchardQuery join = three(head + "0.0 IS 1.0 AND 0.0 IS 5");
        CHECKS.is("TRUE", join.rewrite(TRUE), 0);
        CHECKS.is("DRAWN", join.rewrite(DRAWN), 1);
        CHECKS.is("what is drawn", conditions(join, 2), "1.0 IS 5");
        OrchardQuery apart = three(head + "0.0 IS 5 AND 1.0 IS 6 AND 0.1 IS 1.1");
        CHECKS.is("NEVER of other numbers", apart.rewrite(NEVER), 0);
        CHECKS.is("DRAWN", apart.rewrite(DRAWN), 0);
        OrchardQuery signs = three(head + "0.0 ISNOT 1.0 AND 0.1 LESS 1.1");
        CHECKS.is("NEVER of IS NOT and LESS", signs.rewrite(NEVER), 0);
    }

    private static void drawnFromIsAlone() {
        drawn("0.0 ISNOT 0.1, 0.0 IS 5", "");
        drawn("0.0 LESS 0.1, 0.0 IS 5", "");
        drawn("0.0 IS 0.1, 0.0 ISNOT 5", "");
        drawn("0.0 IS 0.1, 0.0 LESS 5", "");
        drawn("0.0 IS 0.1, 0.1 IS 1.0", "");
        drawn("0.0 IS 5, 0.1 IS 5", "");
        drawn("0.0 IS 0.1", "");
        drawn("0.0 IS 5", "");
    }

    private static void thereIsNoSuchCondition() {
        drawn("0.0 IS 0.1, 0.0 IS 5, 0.1 IS 5", "");
        drawn("0.1 IS 5, 0.0 IS 5, 0.0 IS 0.1", "");
        drawn("0.0 IS 0.1, 0.0 IS 5, 0.1 ISNOT 5", "0.1 IS 5");
        drawn("0.0 IS 0.1, 0.0 IS 5, 0.1 LESS 5", "0.1 IS 5");
        drawn("0.0 IS 0.1, 0.0 IS 5, 0.1 IS 6", "0.1 IS 5, 0.0 IS 6");
        drawn("0.0 IS 0.1, 0.0 IS 5, 1.1 IS 5", "0.1 IS 5");
        drawn("0.0 IS 0.1, 0.0 IS 0.1, 0.0 IS 5, 0.0 IS 5", "0.1 IS 5");
    }

    private static void byTheNumberOfTheFirstThenOfTheSecond() {
        drawn("0.0 IS 1.0, 0.0 IS 1.1, 0.0 IS 1, 0.0 IS 2", "1.0 IS 1, 1.0 IS 2, 1.1 IS 1, 1.1 IS 2");
        drawn("0.0 IS 1, 0.0 IS 2, 0.0 IS 1.1, 0.0 IS 1.0", "1.1 IS 1, 1.1 IS 2, 1.0 IS 1, 1.0 IS 2");
        drawn("0.0 IS 2, 0.0 IS 1.1, 0.0 IS 1, 0.0 IS 1.0", "1.1 IS 2, 1.1 IS 1, 1.0 IS 2, 1.0 IS 1");
        drawn("1.0 IS 1.1, 0.0 IS 1.0, 0.0 IS 1, 0.0 IS 2", "1.0 IS 1, 1.1 IS 1, 1.0 IS 2, 1.1 IS 2");
        drawn("0.0 IS 1.0, 1.0 IS 2, 0.0 IS 1", "0.0 IS 2, 1.0 IS 1");
    }

    private static void theLevelOfTheLastSeat() {
        OrchardQuery q = three("SELECT 0.0 FROM T0 T1 T2 WHERE 0.0 IS 0.1 AND 0.0 IS 1");
        q.rewrite(DOWN);
        q.rewrite(DRAWN);
        CHECKS.is("levels with three", levels(q), "0 0 2");
        q.rewrite(DOWN);
        CHECKS.is("levels behind DOWN", levels(q), "0 0 0");
        OrchardQuery other = three("SELECT 0.0 FROM T0 T1 WHERE 0.0 IS 1.0 AND 0.0 IS 1");
        other.best();
        other.swap(0, 1);
        other.best();
        other.rewrite(DRAWN);
        CHECKS.is("level with two", other.condition(2, 3), 1);
        OrchardQuery one = three("SELECT 0.0 FROM T0 WHERE 0.0 IS 0.1 AND 0.0 IS 1");
        one.rewrite(DRAWN);
        CHECKS.is("levels with one", levels(one), "0 0 0");
    }

    private static void butNotIfThereAreTwelve() {
        OrchardQuery q = two("0.0 IS 0.1 AND 0.1 IS 0.2 AND 0.2 IS 1.0"
                + " AND 0.0 IS 1 AND 0.0 IS 2 AND 0.0 IS 3");
        CHECKS.is("DRAWN", q.rewrite(DRAWN), 6);
        CHECKS.is("conditions", q.many(4), 12);
        CHECKS.is("what is drawn", conditions(q, 6),
                "0.1 IS 1, 0.1 IS 2, 0.1 IS 3, 0.2 IS 1, 0.2 IS 2, 0.2 IS 3");
        CHECKS.is("DRAWN with twelve", q.rewrite(DRAWN), 0);
        CHECKS.is("conditions stay", q.many(4), 12);
        OrchardQuery just = two("0.0 IS 0.1 AND 0.1 IS 0.2 AND 0.0 IS 1 AND 0.0 IS 2 AND 0.0 IS 3"
                + " AND 1.0 LESS 1");
        CHECKS.is("DRAWN, twelve is just enough", just.rewrite(DRAWN), 6);
        CHECKS.is("the last of them", conditions(just, 11), "0.2 IS 3");
        OrchardQuery eleven = two("0.0 IS 0.1 AND 0.1 IS 0.2 AND 0.0 IS 1 AND 0.0 IS 2 AND 0.0 IS 3");
        CHECKS.is("DRAWN up to eleven", eleven.rewrite(DRAWN), 6);
        CHECKS.is("conditions", eleven.many(4), 11);
    }

    // ---- DOWN

    private static void levelAboveLow() {
        OrchardQuery q = three("SELECT 0.0 FROM T0 T1 T2 WHERE 0.0 IS 1 AND 1.0 IS 1 AND 2.0 IS 1"
                + " AND 0.0 IS 1.0 AND 0.0 IS 2.0 AND 0.0 LESS 0.1");
        CHECKS.is("DOWN", q.rewrite(DOWN), 4);
        CHECKS.is("levels", levels(q), "0 1 2 1 2 0");
        CHECKS.is("DOWN again", q.rewrite(DOWN), 0);
        CHECKS.is("levels stay", levels(q), "0 1 2 1 2 0");
        CHECKS.is("DOWN of none", three("SELECT 0.0 FROM T0 T1").rewrite(DOWN), 0);
        CHECKS.is("DOWN of one seat", three("SELECT 0.0 FROM T0 WHERE 0.0 IS 1").rewrite(DOWN), 0);
    }

    private static void downAlsoOfWhatIsEmpty() {
        OrchardQuery q = three("SELECT 0.0 FROM T0 T1 WHERE 0.0 IS 0.1 AND 0.0 IS 1 AND 0.0 IS 2"
                + " AND 0.0 IS 0.0");
        q.rewrite(NEVER);
        CHECKS.is("TRUE", q.rewrite(TRUE), 1);
        CHECKS.is("DRAWN", q.rewrite(DRAWN), 2);
        CHECKS.is("DOWN", q.rewrite(DOWN), 5);
        CHECKS.is("levels", levels(q), "0 0 0 0 0");
        CHECKS.is("it stays EMPTY", q.isEmpty(), true);
    }

    // ---- NEVER

    private static void never(boolean due, String conditions) {
        OrchardQuery q = two(conditions);
        CHECKS.is("NEVER of " + conditions, q.rewrite(NEVER), due ? 1 : 0);
        CHECKS.is("isEmpty() of " + conditions, q.isEmpty(), due);
        CHECKS.is("conditions stay", conditions(q, 0), conditions.replace(" AND", ","));
    }

    private static void otherNumbers() {
        never(true, "0.0 IS 1 AND 0.0 IS 2");
        never(true, "0.0 IS 0 AND 0.0 IS 999");
        never(true, "1.2 IS 1 AND 0.0 IS 1 AND 0.1 IS 1 AND 0.2 IS 1 AND 1.1 IS 1 AND 1.2 IS 0");
        never(false, "0.0 IS 1 AND 0.0 IS 1");
        never(false, "0.0 IS 1 AND 0.1 IS 2");
        never(false, "0.0 IS 1 AND 1.0 IS 2");
        never(false, "0.0 IS 1");
    }

    private static void ofIsAlone() {
        never(false, "0.0 IS 1 AND 0.0 ISNOT 2");
        never(false, "0.0 IS 1 AND 0.0 ISNOT 1");
        never(false, "0.0 IS 1 AND 0.0 LESS 1");
        never(false, "0.0 ISNOT 1 AND 0.0 ISNOT 2");
        never(false, "0.0 LESS 1 AND 0.0 LESS 2");
        never(false, "0.0 IS 1 AND 0.0 IS 0.1");
        never(false, "0.0 IS 0.1 AND 0.0 IS 0.2");
        never(false, "0.0 LESS 0");
    }

    private static void isNotOrLessAndTheSameColumnTwice() {
        never(true, "0.0 ISNOT 0.0");
        never(true, "0.0 LESS 0.0");
        never(true, "0.0 IS 1 AND 0.1 IS 1 AND 1.2 LESS 1.2");
        never(false, "0.0 IS 0.0");
        never(false, "0.0 ISNOT 0.1");
        never(false, "0.0 LESS 1.0");
        never(false, "0.0 ISNOT 0 AND 0.0 LESS 0");
    }

    private static void ifItIsNotEmpty() {
        OrchardQuery q = two("0.0 IS 1 AND 0.0 IS 2 AND 0.0 IS 3 AND 0.0 LESS 0.0 AND 0.1 ISNOT 0.1");
        CHECKS.is("NEVER, for several reasons", q.rewrite(NEVER), 1);
        CHECKS.is("NEVER again", q.rewrite(NEVER), 0);
        CHECKS.is("isEmpty()", q.isEmpty(), true);
        q.row(0, 1, 1, 1);
        CHECKS.is("it stays EMPTY behind row()", q.isEmpty(), true);
        q.drop(0, 0);
        q.table(1);
        CHECKS.is("behind drop() and table()", q.isEmpty(), true);
        q.swap(0, 1);
        q.best();
        CHECKS.is("behind swap() and best()", q.isEmpty(), true);
        CHECKS.is("NEVER again", q.rewrite(NEVER), 0);
        CHECKS.is("NEVER of no conditions", three("SELECT 0.0 FROM T0").rewrite(NEVER), 0);
    }

    private static void neverOfWhatIsDrawn() {
        OrchardQuery q = two("0.0 IS 0.1 AND 0.0 IS 1 AND 0.1 IS 2");
        CHECKS.is("NEVER before DRAWN", q.rewrite(NEVER), 0);
        CHECKS.is("DRAWN", q.rewrite(DRAWN), 2);
        CHECKS.is("NEVER behind DRAWN", q.rewrite(NEVER), 1);
    }

    /** Each RULE could do something here; it does its own work and leaves the others' undone. */
    private static void eachRuleAlone() {
        String text = "0.0 IS 0.0 AND 0.0 IS 0.1 AND 0.0 IS 1 AND 0.0 IS 2 AND 1.0 IS 1.0";
        int[] times = {2, 2, 4, 1};
        int[] conditions = {3, 7, 5, 5};
        String[] levels = {"1 1 1", "1 1 1 1 1 1 1", "0 0 0 0 1", "1 1 1 1 1"};
        for (int rule = 0; rule <= 3; rule++) {
            OrchardQuery q = two(text);
            CHECKS.is("rewrite(" + rule + ")", q.rewrite(rule), times[rule]);
            CHECKS.is("conditions behind " + rule, q.many(4), conditions[rule]);
            CHECKS.is("levels behind " + rule, levels(q), levels[rule]);
            CHECKS.is("isEmpty() behind " + rule, q.isEmpty(), rule == NEVER);
            CHECKS.is("order behind " + rule, order(q), "0 1");
            CHECKS.is("rewrite(" + rule + ") again", q.rewrite(rule), 0);
        }
    }

    private static void noSuchRule() {
        OrchardQuery q = two("0.0 IS 0.0 AND 0.0 IS 0.1 AND 0.0 IS 1 AND 0.0 IS 2");
        notTo(q, "rewrite()", 3, q::rewrite);
        q.open();
        q.next();
        notTo(q, "rewrite() as one pulls", 3, q::rewrite);
        CHECKS.is("what is pulled is not over", q.next(), false);
    }

    private static OrchardQuery twelve() {
        OrchardQuery q = two("0.0 IS 0.1 AND 0.1 IS 0.2 AND 0.2 IS 1.0"
                + " AND 0.0 IS 1 AND 0.0 IS 2 AND 0.0 IS 3");
        CHECKS.is("DRAWN", q.rewrite(DRAWN), 6);
        return q;
    }

    private static void asLongAsItCanBeOfTwelve() {
        OrchardQuery q = twelve();
        CHECKS.is("DOWN", q.rewrite(DOWN), 11);
        CHECKS.is("levels behind DOWN", levels(q), "0 0 1 0 0 0 0 0 0 0 0 0");
        q.swap(0, 1);
        CHECKS.is("levels behind swap()", levels(q), "1 1 1 1 1 1 1 1 1 1 1 1");
        q.swap(0, 1);
        CHECKS.is("levels behind swap() again", levels(q), "1 1 1 1 1 1 1 1 1 1 1 1");
        q.best();
        CHECKS.is("levels behind best()", levels(q), each(q, 4));
        CHECKS.is("TRUE", q.rewrite(TRUE), 0);
        CHECKS.is("NEVER", q.rewrite(NEVER), 1);
        OrchardQuery far = two("0.0 IS 0.1 AND 0.1 IS 0.2 AND 0.2 IS 1.0 AND 0.0 IS 1 AND 1.0 IS 2"
                + " AND 0.0 LESS 5");
        CHECKS.is("NEVER before DRAWN", far.rewrite(NEVER), 0);
        CHECKS.is("DRAWN", far.rewrite(DRAWN), 6);
        CHECKS.is("what is drawn", conditions(far, 6),
                "0.1 IS 1, 0.2 IS 1, 0.2 IS 2, 0.1 IS 2, 0.0 IS 2, 1.0 IS 1");
        CHECKS.is("NEVER of what is drawn", far.rewrite(NEVER), 1);
    }

    /** 14 ROWS: 7, 7, and 7 or 8 by turns. */
    private static void eightConditionsCount() {
        OrchardQuery q = Make.tables(3);
        for (int i = 0; i < 14; i++) {
            q.row(0, 7, 7, 7 + i % 2);
        }
        Make.read(q, "SELECT 0.0 FROM T0 WHERE 0.0 IS 0.1 AND 0.1 IS 0.2 AND 0.0 IS 7 AND 0.0 IS 7"
                + " AND 0.0 IS 7 AND 0.0 IS 7");
        CHECKS.is("guess(0) of six", q.guess(0), 7);
        CHECKS.is("checks of six", q.wouldDo(1), 7 * 2 + 7 * 6);
        CHECKS.is("DRAWN", q.rewrite(DRAWN), 2);
        CHECKS.is("guess(0) of eight", q.guess(0), 3);
        CHECKS.is("checks of eight", q.wouldDo(1), 7 * 2 + 7 * 8);
        CHECKS.is("results of eight", q.results(), 7);
    }

    // ---- Promise 13: swap

    private static void levelsBelowLow() {
        OrchardQuery q = three("SELECT 0.0 FROM T0 T1 T2 WHERE 0.0 IS 1 AND 1.0 IS 1 AND 2.0 IS 1"
                + " AND 0.0 IS 1.0");
        q.rewrite(DOWN);
        CHECKS.is("levels of 0 1 2", levels(q), "0 1 2 1");
        CHECKS.is("swap(0, 1)", q.swap(0, 1), 1);
        CHECKS.is("levels of 1 0 2: one rises, none goes down", levels(q), "1 1 2 1");
        CHECKS.is("swap(1, 2)", q.swap(1, 2), 2);
        CHECKS.is("levels of 1 2 0", levels(q), "2 1 2 2");
        CHECKS.is("swap(2, 0)", q.swap(2, 0), 1);
        CHECKS.is("levels of 0 2 1", levels(q), "2 2 2 2");
        CHECKS.is("DOWN", q.rewrite(DOWN), 2);
        CHECKS.is("levels behind DOWN", levels(q), "0 2 1 2");
    }

    private static void levelsBelowLowOfEmpty() {
        OrchardQuery q = three("SELECT 0.0 FROM T0 T1 T2 WHERE 0.0 LESS 0.0 AND 1.0 IS 1 AND 2.0 IS 5");
        q.rewrite(NEVER);
        q.rewrite(DOWN);
        CHECKS.is("levels", levels(q), "0 1 2");
        q.swap(0, 2);
        CHECKS.is("levels behind swap()", levels(q), "2 1 2");
        q.swap(0, 1);
        CHECKS.is("levels behind another", levels(q), "2 1 2");
    }

    private static void twoPlaces() {
        int[][] dues = {{0, 1}, {0, 2}, {1, 2}, {0, 0}, {1, 1}, {2, 2}};
        for (int[] places : dues) {
            for (int turn = 0; turn < 2; turn++) {
                OrchardQuery q = three("SELECT 0.0 FROM T0 T1 T2");
                int one = places[turn];
                int other = places[1 - turn];
                CHECKS.is("swap(" + one + ", " + other + ")", q.swap(one, other), other);
                CHECKS.is("order() of the one", q.order(one), other);
                CHECKS.is("order() of the other", q.order(other), one);
                CHECKS.is("again", q.swap(one, other), one);
                CHECKS.is("the order as it was", order(q), "0 1 2");
            }
        }
        OrchardQuery two = three("SELECT 0.0 FROM T0 T1");
        CHECKS.is("swap(1, 0) of two", two.swap(1, 0), 0);
        CHECKS.is("the order of two", order(two), "1 0");
        OrchardQuery one = three("SELECT 0.0 FROM T0");
        CHECKS.is("swap(0, 0) of one", one.swap(0, 0), 0);
    }

    private static void eachSeatAtItsPlace() {
        OrchardQuery q = three("SELECT 0.0 FROM T0 T1 T2");
        String[] swaps = {"0 1", "1 2", "0 1", "1 2", "0 1", "1 2"};
        int[][] dues = {{1, 0, 2}, {1, 2, 0}, {2, 1, 0}, {2, 0, 1}, {0, 2, 1}, {0, 1, 2}};
        for (int i = 0; i < swaps.length; i++) {
            Script.run(q, "swap " + swaps[i]);
            for (int place = 0; place < 3; place++) {
                CHECKS.is("order(" + place + ")", q.order(place), dues[i][place]);
            }
        }
    }

    private static void noSuchPlace() {
        String[] from = {"T0", "T0 T1", "T0 T1 T2"};
        for (int n = 1; n <= 3; n++) {
            OrchardQuery q = three("SELECT 0.0 FROM " + from[n - 1]);
            int last = n - 1;
            outside(q, "swap(.., 0)", n, place -> q.swap(place, 0));
            outside(q, "swap(0, ..)", n, place -> q.swap(0, place));
            outside(q, "swap(last, ..)", n, place -> q.swap(last, place));
            outside(q, "swap() of both", n, place -> q.swap(place, place));
            outside(q, "order()", n, q::order);
            CHECKS.is("order() of the last", q.order(last), last);
        }
    }

    private static void noSuchLevel() {
        String[] from = {"T2", "T2 T2", "T2 T2 T2"};
        for (int n = 1; n <= 3; n++) {
            OrchardQuery q = three("SELECT 0.0 FROM " + from[n - 1]);
            outside(q, "guess()", n, q::guess);
            CHECKS.is("guess() of the last", q.guess(n - 1), 1 << n);
        }
    }

    // ---- Promise 14: best

    private static void asIfEachHadItsLow() {
        OrchardQuery q = three("SELECT 0.0 FROM T0 T1 WHERE 1.0 IS 1");
        CHECKS.is("cost() at first", q.cost(), 15);
        CHECKS.is("best()", q.best(), 7);
        CHECKS.is("its order", order(q), "1 0");
        CHECKS.is("its levels", levels(q), "0");
        CHECKS.is("cost() behind it", q.cost(), 7);
        CHECKS.is("best() again", q.best(), 7);
    }

    private static void eachGetsItsLow() {
        OrchardQuery q = three("SELECT 0.0 FROM T0 T1 T2 WHERE 0.0 ISNOT 9 AND 1.0 ISNOT 9"
                + " AND 2.0 ISNOT 9 AND 0.0 ISNOT 1.0");
        q.best();
        CHECKS.is("levels", levels(q), each(q, 4));
        q.swap(0, 2);
        q.best();
        CHECKS.is("levels behind swap()", levels(q), each(q, 4));
        CHECKS.is("none is above", q.rewrite(DOWN), 0);
    }

    private static void ofSeveralTheSmallestNumbers() {
        OrchardQuery alike = three("SELECT 0.0 FROM T0 T0 T0");
        alike.swap(0, 2);
        CHECKS.is("best() of three alike", alike.best(), 39);
        CHECKS.is("its order", order(alike), "0 1 2");
        OrchardQuery last = three("SELECT 0.0 FROM T1 T0 T0");
        CHECKS.is("best(), the greatest at first", last.best(), 48);
        CHECKS.is("its order", order(last), "1 2 0");
        last.swap(0, 1);
        CHECKS.is("best() of one as good", last.best(), 48);
        CHECKS.is("its order", order(last), "1 2 0");
        OrchardQuery first = three("SELECT 0.0 FROM T2 T0 T0");
        first.swap(1, 2);
        CHECKS.is("best(), the least at first", first.best(), 26);
        CHECKS.is("its order", order(first), "0 1 2");
        OrchardQuery third = three("SELECT 0.0 FROM T0 T0 T2");
        CHECKS.is("best(), the third one at first", third.best(), 26);
        CHECKS.is("its order", order(third), "2 0 1");
        OrchardQuery second = three("SELECT 0.0 FROM T0 T2 T0");
        CHECKS.is("best(), the second one at first", second.best(), 26);
        CHECKS.is("its order", order(second), "1 0 2");
        OrchardQuery two = three("SELECT 0.0 FROM T1 T1");
        two.swap(0, 1);
        CHECKS.is("best() of two alike", two.best(), 20);
        CHECKS.is("its order", order(two), "0 1");
        OrchardQuery none = Make.sized(0, 0, 0);
        Make.read(none, "SELECT 0.0 FROM T0 T1 T2");
        none.swap(0, 2);
        CHECKS.is("best() without rows", none.best(), 0);
        CHECKS.is("its order", order(none), "0 1 2");
    }

    private static void soIfItIsEmpty() {
        OrchardQuery q = three("SELECT 0.0 FROM T1 T0 T2 WHERE 0.0 LESS 0.0 AND 1.0 IS 1 AND 2.0 IS 5"
                + " AND 0.0 IS 2.0");
        q.rewrite(NEVER);
        for (int turn = 0; turn < 3; turn++) {
            q.swap(turn, 2 - turn);
            q.swap(1, turn);
            CHECKS.is("best() of EMPTY", q.best(), 0);
            CHECKS.is("its order", order(q), "0 1 2");
            CHECKS.is("its levels", levels(q), "0 1 2 2");
        }
        CHECKS.is("it stays EMPTY", q.isEmpty(), true);
    }

    private static void eachOrderCanBeTheBest() {
        int[][] sizes = {{1, 2, 3}, {1, 3, 2}, {2, 1, 3}, {3, 1, 2}, {2, 3, 1}, {3, 2, 1}};
        String[] orders = {"0 1 2", "0 2 1", "1 0 2", "1 2 0", "2 0 1", "2 1 0"};
        for (int i = 0; i < 6; i++) {
            OrchardQuery q = Make.sized(sizes[i]);
            Make.read(q, "SELECT 0.0 FROM T0 T1 T2");
            CHECKS.is("best()", q.best(), 9);
            CHECKS.is("its order", order(q), orders[i]);
        }
        OrchardQuery one = three("SELECT 0.0 FROM T1");
        CHECKS.is("best() of one seat", one.best(), 4);
        CHECKS.is("its order", order(one), "0");
        OrchardQuery none = Make.sized(3, 0, 2);
        Make.read(none, "SELECT 0.0 FROM T0 T1 T2");
        CHECKS.is("best() with a table without rows", none.best(), 0);
        CHECKS.is("its order", order(none), "1 0 2");
    }

    // ---- GUESSES

    private static void theLeastAndTheGreatestGuess() {
        OrchardQuery full = Make.sized(14, 14, 14);
        Make.read(full, "SELECT 0.0 FROM T0 T1 T2");
        CHECKS.is("guess(0)", full.guess(0), 14);
        CHECKS.is("guess(1)", full.guess(1), 196);
        CHECKS.is("guess(2)", full.guess(2), 2744);
        CHECKS.is("cost()", full.cost(), 2954);
        CHECKS.is("best()", full.best(), 2954);
        OrchardQuery none = Make.sized(0, 14, 14);
        Make.read(none, "SELECT 0.0 FROM T0 T1 T2");
        CHECKS.is("guess(0) without rows", none.guess(0), 0);
        CHECKS.is("guess(2) without rows below", none.guess(2), 0);
        CHECKS.is("cost() without rows", none.cost(), 0);
        none.swap(0, 2);
        CHECKS.is("guess(1), the rows at the end", none.guess(1), 196);
        CHECKS.is("guess(2), no rows at the end", none.guess(2), 0);
        CHECKS.is("cost(), no rows at the end", none.cost(), 14 + 196);
        OrchardQuery one = Make.sized(1);
        Make.read(one, "SELECT 0.0 FROM T0");
        CHECKS.is("guess(0): 1 below 0", one.guess(0), 1);
        CHECKS.is("cost()", one.cost(), 1);
    }

    /** 7 ROWS; the COLUMN 0 has 7 VALUES, the COLUMN 1 has 2. */
    private static OrchardQuery seven(String conditions) {
        OrchardQuery q = Make.tables(2);
        for (int i = 0; i < 7; i++) {
            q.row(0, i, i % 2, 0);
        }
        Make.read(q, "SELECT 0.0 FROM T0 WHERE " + conditions);
        return q;
    }

    private static void cutAtEachByNumbers() {
        CHECKS.is("7, 2, 1", seven("0.0 LESS 5 AND 0.1 IS 1").guess(0), 1);
        CHECKS.is("7, 3, 0", seven("0.1 IS 1 AND 0.0 LESS 5").guess(0), 0);
        CHECKS.is("7, 6, 5, 4, 3, 2, 1", seven("0.0 ISNOT 1 AND 0.0 ISNOT 1 AND 0.0 ISNOT 1"
                + " AND 0.0 ISNOT 1 AND 0.0 ISNOT 1 AND 0.0 ISNOT 1").guess(0), 1);
        CHECKS.is("7 times 142 / 1000", seven("0.0 IS 1").guess(0), 0);
        CHECKS.is("7 times 1000 / 1000", seven("0.0 IS 0.0 AND 0.1 ISNOT 1").guess(0), 0);
        OrchardQuery q = seven("0.0 LESS 5");
        CHECKS.is("7 times 333", q.guess(0), 2);
        q.drop(0, 0);
        CHECKS.is("6 times 333", q.guess(0), 1);
        CHECKS.is("cost() is not cut by its own level", q.cost(), 6);
    }

    private static void ofThisLevelAlone() {
        OrchardQuery q = three("SELECT 0.0 FROM T1 T0 T2 WHERE 0.1 IS 5 AND 1.1 IS 10 AND 2.0 IS 5");
        CHECKS.is("guesses at first", q.guess(0) * 10000 + q.guess(1) * 100 + q.guess(2), 41203);
        CHECKS.is("cost() at first", q.cost(), 4 + 12 + 24);
        q.rewrite(DOWN);
        // 4 * 500 / 1000 = 2; 2 * 3 * 500 / 1000 = 3; 3 * 2 * 500 / 1000 = 3
        CHECKS.is("guesses behind DOWN", q.guess(0) * 10000 + q.guess(1) * 100 + q.guess(2), 20303);
        CHECKS.is("cost() behind DOWN", q.cost(), 4 + 6 + 6);
        q.swap(0, 2);
        // 2; 2 * 3 * 500 / 1000 = 3; 3 * 4 = 12, 6, 3: what had the level 0 has the level 2
        CHECKS.is("guesses behind swap()", q.guess(0) * 10000 + q.guess(1) * 100 + q.guess(2), 20303);
        CHECKS.is("cost() behind swap()", q.cost(), 2 + 6 + 12);
    }

    private static void theCostOfEachLevel() {
        OrchardQuery q = three("SELECT 0.0 FROM T1");
        CHECKS.is("4", q.cost(), 4);
        Make.read(q, "SELECT 0.0 FROM T1 WHERE 0.0 LESS 1");
        CHECKS.is("4, whatever holds then", q.cost(), 4);
        Make.read(q, "SELECT 0.0 FROM T1 T0");
        CHECKS.is("4 and 4 * 3", q.cost(), 16);
        Make.read(q, "SELECT 0.0 FROM T1 T0 T2 WHERE 0.1 ISNOT 5");
        CHECKS.is("4 and 12 and 24", q.cost(), 40);
        q.rewrite(DOWN);
        CHECKS.is("4 and 2 * 3 and 6 * 2", q.cost(), 22);
        q.swap(1, 2);
        CHECKS.is("4 and 2 * 2 and 4 * 3", q.cost(), 20);
        q.swap(0, 1);
        CHECKS.is("2 and 2 * 4 and 4 * 3", q.cost(), 22);
        q.row(1, 1, 1, 1);
        CHECKS.is("2 and 2 * 5 and 6 * 3", q.cost(), 30);
    }

    private static void zeroIfItIsEmpty() {
        OrchardQuery q = three("SELECT 0.0 FROM T0 T1 WHERE 0.0 LESS 0.0");
        CHECKS.is("cost() before", q.cost(), 15);
        q.rewrite(NEVER);
        CHECKS.is("cost()", q.cost(), 0);
        CHECKS.is("guess(0)", q.guess(0), 3);
        CHECKS.is("guess(1)", q.guess(1), 3);
        CHECKS.is("cost() as it is READ again", q.read() + q.cost(), 15);
    }

    private static void guessesAreAsOfNow() {
        OrchardQuery q = three("SELECT 0.0 FROM T0 T1 WHERE 0.0 IS 1");
        CHECKS.is("guess(1)", q.guess(1), 12 * 333 / 1000);
        q.row(0, 3, 10, 0);
        CHECKS.is("behind a row alike", q.guess(1), 16 * 333 / 1000);
        q.row(0, 4, 10, 0);
        CHECKS.is("behind a row with another value", q.guess(1), 20 * 250 / 1000);
        q.drop(0, 4);
        q.drop(0, 0);
        CHECKS.is("behind drop()", q.guess(1), 12 * 500 / 1000);
        CHECKS.is("cost()", q.cost(), 15);
    }

    public static void main(String[] args) {
        CHECKS.under("Terms");
        plan();
        rulesTrueAndDrawn();
        rulesDownAndNever();
        guesses();
        conditionRewriteAndSwap();
        bestOrderGuessAndCost();
        CHECKS.end();
    }

    private static void plan() {
        CHECKS.sentence("3 The PLAN of a QUERY that is READ: its CONDITIONS, numbered from 0 as they come,",
                PlanEdgesTest::numberedAsTheyCome);
        CHECKS.sentence("each with a LEVEL,", PlanEdgesTest::levelAtFirst);
        CHECKS.sentence("and the ORDER of its SEATS; at first 0, 1, 2.", PlanEdgesTest::orderAtFirst);
        CHECKS.sentence("It is EMPTY, or not (at first).", PlanEdgesTest::notEmptyAtFirst);
        CHECKS.sentence("The LEVEL of each is that of the last SEAT in the ORDER at first.",
                PlanEdgesTest::levelAtFirst);
        CHECKS.sentence("The LOW of a CONDITION is the greatest place in the ORDER of a SEAT in it.",
                PlanEdgesTest::lowIsTheGreatestPlace);
    }

    private static void rulesTrueAndDrawn() {
        CHECKS.sentence("RULES: 0 TRUE: the first CONDITION with IS and the same COLUMN twice goes;",
                PlanEdgesTest::theSameColumnTwiceGoes);
        CHECKS.sentence("the first CONDITION with IS and the same COLUMN twice goes;",
                PlanEdgesTest::theSameColumnOfAnotherSeatStays);
        CHECKS.sentence("those behind it have numbers that are 1 less.",
                PlanEdgesTest::thoseBehindItAreOneLess);

        CHECKS.sentence("1 DRAWN: for the first two CONDITIONS x IS y", PlanEdgesTest::drawnFromIsAlone);
        CHECKS.sentence("(COLUMNS, other ones,", PlanEdgesTest::drawnFromOtherColumns);
        CHECKS.sentence("that is other TOKENS,", PlanEdgesTest::otherTokensOfOneTable);
        CHECKS.sentence("either way round)", PlanEdgesTest::drawnEitherWayRound);
        CHECKS.sentence("and x IS n (a NUMBER),", PlanEdgesTest::drawnFromIsAlone);
        CHECKS.sentence("by the number of the first and then of the second,",
                PlanEdgesTest::byTheNumberOfTheFirstThenOfTheSecond);
        CHECKS.sentence("for which there is no CONDITION y IS n:", PlanEdgesTest::thereIsNoSuchCondition);
        CHECKS.sentence("that is added behind all, with the LEVEL of the last SEAT in the ORDER;",
                PlanEdgesTest::theLevelOfTheLastSeat);
        CHECKS.sentence("but not, if there are 12.", PlanEdgesTest::butNotIfThereAreTwelve);
    }

    private static void rulesDownAndNever() {
        CHECKS.sentence("2 DOWN: the first CONDITION whose LEVEL is above its LOW has its LOW as LEVEL.",
                PlanEdgesTest::levelAboveLow);
        CHECKS.sentence("3 NEVER: if it is not EMPTY,", PlanEdgesTest::ifItIsNotEmpty);
        CHECKS.sentence("and there are two CONDITIONS x IS n and x IS m,", PlanEdgesTest::ofIsAlone);
        CHECKS.sentence("x IS m, with other NUMBERS,", PlanEdgesTest::otherNumbers);
        CHECKS.sentence("or one with IS NOT or LESS, and the same COLUMN twice: it is EMPTY.",
                PlanEdgesTest::isNotOrLessAndTheSameColumnTwice);
        CHECKS.sentence("and the same COLUMN twice: it is EMPTY.", PlanEdgesTest::neverOfWhatIsDrawn);
        CHECKS.sentence("Each is done again as long as it can be.", PlanEdgesTest::noneAndAllOfThemGo);
        CHECKS.sentence("Each is done again as long as it can be.", PlanEdgesTest::downAlsoOfWhatIsEmpty);
        CHECKS.sentence("Each is done again as long as it can be.",
                PlanEdgesTest::asLongAsItCanBeOfTwelve);
        CHECKS.sentence("As the ORDER becomes another one, each CONDITION whose LEVEL is below its LOW"
                + " has its LOW as LEVEL.", PlanEdgesTest::levelsBelowLow);
        CHECKS.sentence("each CONDITION whose LEVEL is below its LOW", PlanEdgesTest::levelsBelowLowOfEmpty);
    }

    private static void guesses() {
        CHECKS.sentence("4 GUESSES. PART of a CONDITION, in thousandths: of IS with a NUMBER"
                + " 1000 / VARIETY of the COLUMN,", PlanEdgesTest::partOfIsAndIsNot);
        CHECKS.sentence("/ is cut towards 0.", PlanEdgesTest::cutTowardsZero);
        CHECKS.sentence("with two COLUMNS 1000 / the greater VARIETY of both",
                PlanEdgesTest::theGreaterVarietyOfBoth);
        CHECKS.sentence("(1000 in both cases, if the VARIETY is 0);", PlanEdgesTest::ifTheVarietyIsZero);
        CHECKS.sentence("of IS NOT 1000 less that;", PlanEdgesTest::partOfIsAndIsNot);
        CHECKS.sentence("of LESS 333.", PlanEdgesTest::partOfLess);
        CHECKS.sentence("The GUESS of the LEVEL k: that of the one below (1 below 0)",
                PlanEdgesTest::theLeastAndTheGreatestGuess);
        CHECKS.sentence("times the ROWS of the TABLE of the SEAT at the place k,",
                PlanEdgesTest::guessesAreAsOfNow);
        CHECKS.sentence("and then, for each CONDITION of this LEVEL,", PlanEdgesTest::ofThisLevelAlone);
        CHECKS.sentence("for each CONDITION of this LEVEL,", PlanEdgesTest::eightConditionsCount);
        CHECKS.sentence("by numbers, times its PART, / 1000.", PlanEdgesTest::cutAtEachByNumbers);
        CHECKS.sentence("The COST: for each LEVEL the GUESS of the one below, times the ROWS of its TABLE,"
                + " all together;", PlanEdgesTest::theCostOfEachLevel);
        CHECKS.sentence("0, if it is EMPTY.", PlanEdgesTest::zeroIfItIsEmpty);
    }

    private static void conditionRewriteAndSwap() {
        CHECKS.under("Promise 11: condition");
        CHECKS.sentence("`condition`: a CONDITION", PlanEdgesTest::numberedAsTheyCome);
        CHECKS.sentence("`what`: 0 the TOKEN of the COLUMN on its left, 1 9 for IS, 10 for IS NOT,"
                + " 11 for LESS, 2 the TOKEN on its right, 3 its LEVEL, 4 its LOW, 5 its PART",
                PlanEdgesTest::whatOfACondition);
        CHECKS.sentence("Returns that.", PlanEdgesTest::whatOfACondition);
        CHECKS.sentence("Throws `IndexOutOfBoundsException` if there is no such CONDITION",
                PlanEdgesTest::noSuchCondition);
        CHECKS.sentence("Throws `IllegalArgumentException` if what is not 0 to 5",
                PlanEdgesTest::whatOfNoCondition);

        CHECKS.under("Promise 12: rewrite");
        CHECKS.sentence("Rewrites by a RULE, as long as it can be.", PlanEdgesTest::downAlsoOfWhatIsEmpty);
        CHECKS.sentence("`rule`: the RULE", PlanEdgesTest::eachRuleAlone);
        CHECKS.sentence("Returns how many times it was done.", PlanEdgesTest::eachRuleAlone);
        CHECKS.sentence("Throws `IllegalArgumentException` if rule is not 0 to 3",
                PlanEdgesTest::noSuchRule);

        CHECKS.under("Promise 13: swap");
        CHECKS.sentence("Changes the two SEATS at two places of the ORDER one for the other.",
                PlanEdgesTest::twoPlaces);
        CHECKS.sentence("`one`: a place, from 0", PlanEdgesTest::twoPlaces);
        CHECKS.sentence("`other`: a place", PlanEdgesTest::twoPlaces);
        CHECKS.sentence("Returns the SEAT at the place one then.", PlanEdgesTest::twoPlaces);
        CHECKS.sentence("Throws `IndexOutOfBoundsException` if there is no such place",
                PlanEdgesTest::noSuchPlace);
    }

    private static void bestOrderGuessAndCost() {
        CHECKS.under("Promise 14: best");
        CHECKS.sentence("Brings the SEATS into the ORDER with the least COST,",
                PlanEdgesTest::eachOrderCanBeTheBest);
        CHECKS.sentence("as it would be if each CONDITION had its LOW as LEVEL;",
                PlanEdgesTest::asIfEachHadItsLow);
        CHECKS.sentence("of several (so if it is EMPTY)", PlanEdgesTest::soIfItIsEmpty);
        CHECKS.sentence("that in which the first SEAT has the smallest number, then the second one;",
                PlanEdgesTest::ofSeveralTheSmallestNumbers);
        CHECKS.sentence("and gives each CONDITION its LOW as LEVEL.", PlanEdgesTest::eachGetsItsLow);
        CHECKS.sentence("Returns the COST.", PlanEdgesTest::asIfEachHadItsLow);

        CHECKS.under("Promise 15: order");
        CHECKS.sentence("`place`: a place of the ORDER, from 0", PlanEdgesTest::eachSeatAtItsPlace);
        CHECKS.sentence("Returns the SEAT there.", PlanEdgesTest::eachSeatAtItsPlace);
        CHECKS.sentence("Throws `IndexOutOfBoundsException` if there is no such place",
                PlanEdgesTest::noSuchPlace);

        CHECKS.under("Promise 16: guess");
        CHECKS.sentence("`level`: a LEVEL", PlanEdgesTest::theLeastAndTheGreatestGuess);
        CHECKS.sentence("Returns its GUESS.", PlanEdgesTest::ofThisLevelAlone);
        CHECKS.sentence("Throws `IndexOutOfBoundsException` if there is no such LEVEL",
                PlanEdgesTest::noSuchLevel);

        CHECKS.under("Promise 17: cost");
        CHECKS.sentence("Returns the COST.", PlanEdgesTest::theCostOfEachLevel);

        CHECKS.under("Promise 18: isEmpty");
        CHECKS.sentence("Returns whether the PLAN is EMPTY.", PlanEdgesTest::emptyByNeverAlone);
    }
}
