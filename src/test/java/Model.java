import java.util.ArrayList;
import java.util.Comparator;
import java.util.List;
import java.util.TreeMap;
import java.util.TreeSet;

/**
 * The document once more, as plainly and slowly as can be: nothing is kept that can be found anew,
 * and every PULL goes through the query from the beginning. Only tests use it.
 */
final class Model {
    private static final int NONE = -1;

    private static final class Table {
        int columns;
        List<int[]> rows = new ArrayList<>();
    }

    private static final class Cond {
        int left;
        int sign;
        int right;
        int level;

        Cond(int left, int sign, int right, int level) {
            this.left = left;
            this.sign = sign;
            this.right = right;
            this.level = level;
        }

        boolean isNumber() {
            return right >= 1000;
        }
    }

    /** One way through the query, up to so many MEETINGS. */
    private final class Tour {
        final List<int[]> meetings = new ArrayList<>();
        int reads;
        int checks;

        Tour(List<Cond> asked, int most) {
            go(asked, most, 0, new int[seats.size()]);
        }

        private void go(List<Cond> asked, int most, int place, int[] at) {
            if (place == order.size()) {
                meetings.add(at.clone());
                return;
            }
            int seat = order.get(place);
            for (int r = 0; r < tableOf(seat).rows.size(); r++) {
                if (meetings.size() >= most) {
                    return;
                }
                at[seat] = r;
                reads++;
                boolean all = true;
                for (Cond c : asked) {
                    if (all && c.level == place) {
                        checks++;
                        all = holds(c, at);
                    }
                }
                if (all) {
                    go(asked, most, place + 1, at);
                }
            }
        }
    }

    private final List<Table> tables = new ArrayList<>();
    private final List<Integer> tokens = new ArrayList<>();
    private boolean isRead;
    private int faultAt = NONE;

    private final List<int[]> items = new ArrayList<>();
    private final List<Integer> seats = new ArrayList<>();
    private int group;
    private int orderItem;
    private int limit;

    private final List<Cond> conds = new ArrayList<>();
    private List<Integer> order = new ArrayList<>();
    private boolean empty;

    private boolean begun;
    private int pulled;
    private boolean ended;
    private boolean pulledAny;

    private void over() {
        begun = false;
        pulled = 0;
        ended = false;
        pulledAny = false;
    }

    private Table tableOf(int seat) {
        return tables.get(seats.get(seat));
    }

    private int cell(int column, int[] at) {
        int seat = column / 10 % 10;
        return tableOf(seat).rows.get(at[seat])[column % 10];
    }

    private boolean holds(Cond c, int[] at) {
        int left = cell(c.left, at);
        int right = c.isNumber() ? c.right - 1000 : cell(c.right, at);
        switch (c.sign) {
            case 9: return left == right;
            case 10: return left != right;
            default: return left < right;
        }
    }

    private void needRead() {
        if (!isRead) {
            throw new IllegalStateException();
        }
    }

    private static void index(boolean there) {
        if (!there) {
            throw new IndexOutOfBoundsException();
        }
    }

    private static void argument(boolean right) {
        if (!right) {
            throw new IllegalArgumentException();
        }
    }

    private static void state(boolean right) {
        if (!right) {
            throw new IllegalStateException();
        }
    }

    private static boolean in(int x, int size) {
        return 0 <= x && x < size;
    }

    // ---- tables

    int table(int columns) {
        argument(columns == 1 || columns == 2 || columns == 3);
        state(tables.size() != 5);
        Table t = new Table();
        t.columns = columns;
        tables.add(t);
        return tables.size() - 1;
    }

    int row(int table, int a, int b, int c) {
        index(in(table, tables.size()));
        Table t = tables.get(table);
        int[] all = {a, b, c};
        int[] row = new int[t.columns];
        for (int i = 0; i < t.columns; i++) {
            argument(-999 <= all[i] && all[i] <= 999);
            row[i] = all[i];
        }
        state(t.rows.size() < 14);
        t.rows.add(row);
        over();
        return t.rows.size();
    }

    int drop(int table, int place) {
        index(in(table, tables.size()));
        index(in(place, tables.get(table).rows.size()));
        tables.get(table).rows.remove(place);
        over();
        return tables.get(table).rows.size();
    }

    int variety(int table, int column) {
        index(in(table, tables.size()));
        index(in(column, tables.get(table).columns));
        TreeSet<Integer> values = new TreeSet<>();
        for (int[] row : tables.get(table).rows) {
            values.add(row[column]);
        }
        return values.size();
    }

    // ---- the query

    int token(int token) {
        argument(in(token, 12) || (20 <= token && token <= 24)
                || (100 <= token && token <= 199) || (1000 <= token && token <= 1999));
        state(tokens.size() < 40);
        tokens.add(token);
        isRead = false;
        faultAt = NONE;
        over();
        return tokens.size();
    }

    int clear() {
        int n = tokens.size();
        tokens.clear();
        isRead = false;
        faultAt = NONE;
        over();
        return n;
    }

    /** What a TOKEN is to the reader: a letter for each kind. */
    private char kind(int token) {
        if (token < 12) {
            return "SFWAGOLCU===".charAt(token);
        }
        if (token < 100) {
            return 't';
        }
        return token < 1000 ? 'c' : 'n';
    }

    /**
     * Reads by states: a state is what was read last. Each row: the state, then what may come with
     * the state that follows; behind '/' the FAULT of all else.
     */
    private static final String[] STATES = {
        "begin S>select /1",
        "select c>item C>item U>sum /2",
        "sum c>item /2",
        "item c>item C>item U>sum F>from /3",
        "item4 F>from /3",
        "from t>table /4",
        "table t>table W>where G>group O>order L>limit .>end /9",
        "table3 W>where G>group O>order L>limit .>end /9",
        "where c>left /5",
        "left =>sign /6",
        "sign c>cond n>cond /7",
        "cond A>where G>group O>order L>limit .>end /9",
        "cond6 G>group O>order L>limit .>end /9",
        "group c>grouped /5",
        "grouped O>order L>limit .>end /9",
        "order n>ordered /8",
        "ordered L>limit .>end /9",
        "limit n>limited /8",
        "limited .>end /9",
    };

    private String[] stateNamed(String name) {
        for (String row : STATES) {
            if (row.startsWith(name + " ")) {
                return row.split(" ");
            }
        }
        throw new AssertionError(name);
    }

    private int fault(int number, int place) {
        faultAt = place;
        isRead = false;
        return number;
    }

    int read() {
        over();
        faultAt = NONE;
        isRead = false;
        items.clear();
        seats.clear();
        conds.clear();
        group = NONE;
        orderItem = NONE;
        limit = NONE;
        empty = false;
        int orderPlace = NONE;
        String state = "begin";
        int sumFor = NONE;
        for (int i = 0; i <= tokens.size(); i++) {
            int token = i < tokens.size() ? tokens.get(i) : NONE;
            char kind = token == NONE ? '.' : kind(token);
            String name = state;
            if (state.equals("item") && items.size() == 4) {
                name = "item4";
            } else if (state.equals("table") && seats.size() == 3) {
                name = "table3";
            } else if (state.equals("cond") && conds.size() == 6) {
                name = "cond6";
            }
            String[] row = stateNamed(name);
            String to = null;
            for (int k = 1; k < row.length - 1; k++) {
                if (row[k].charAt(0) == kind) {
                    to = row[k].substring(2);
                }
            }
            if (to == null) {
                return fault(Integer.parseInt(row[row.length - 1].substring(1)), i);
            }
            switch (to) {
                case "item":
                    items.add(new int[] {state.equals("sum") ? 8 : kind == 'C' ? 7 : 0, token});
                    break;
                case "table":
                    if (token - 20 >= tables.size()) {
                        return fault(4, i);
                    }
                    seats.add(token - 20);
                    break;
                case "left":
                    sumFor = token;
                    break;
                case "cond":
                    conds.add(new Cond(sumFor, tokens.get(i - 1), token, seats.size() - 1));
                    break;
                case "grouped":
                    group = token;
                    break;
                case "ordered":
                    orderItem = token - 1000;
                    orderPlace = i;
                    break;
                case "limited":
                    limit = token - 1000;
                    break;
                default:
                    break;
            }
            state = to;
        }
        for (int i = 0; i < tokens.size(); i++) {
            int token = tokens.get(i);
            if (kind(token) == 'c' && (token / 10 % 10 >= seats.size()
                    || token % 10 >= tableOf(token / 10 % 10).columns)) {
                return fault(10, i);
            }
        }
        if (orderItem != NONE && orderItem >= items.size()) {
            return fault(11, orderPlace);
        }
        order = new ArrayList<>();
        for (int i = 0; i < seats.size(); i++) {
            order.add(i);
        }
        isRead = true;
        return 0;
    }

    int faultAt() {
        return faultAt;
    }

    int many(int what) {
        argument(in(what, 5));
        switch (what) {
            case 0: return tables.size();
            case 1: return tokens.size();
            case 2: return isRead ? items.size() : 0;
            case 3: return isRead ? seats.size() : 0;
            default: return isRead ? conds.size() : 0;
        }
    }

    // ---- the plan

    private int low(Cond c) {
        int low = order.indexOf(c.left / 10 % 10);
        return c.isNumber() ? low : Math.max(low, order.indexOf(c.right / 10 % 10));
    }

    private int varietyOf(int column) {
        return variety(seats.get(column / 10 % 10), column % 10);
    }

    private int part(Cond c) {
        if (c.sign == 11) {
            return 333;
        }
        int v = varietyOf(c.left);
        if (!c.isNumber()) {
            v = Math.max(v, varietyOf(c.right));
        }
        int p = v == 0 ? 1000 : 1000 / v;
        return c.sign == 9 ? p : 1000 - p;
    }

    int condition(int condition, int what) {
        needRead();
        index(in(condition, conds.size()));
        argument(in(what, 6));
        Cond c = conds.get(condition);
        return new int[] {c.left, c.sign, c.right, c.level, low(c), part(c)}[what];
    }

    private boolean has(int left, int right) {
        for (Cond c : conds) {
            if (c.sign == 9 && c.left == left && c.right == right) {
                return true;
            }
        }
        return false;
    }

    /** Does the RULE once. */
    private boolean once(int rule) {
        if (rule == 3 && empty) {
            return false;
        }
        for (Cond c : conds) {
            if (rule == 0 && c.sign == 9 && c.left == c.right) {
                conds.remove(c);
                return true;
            }
            if (rule == 2 && c.level > low(c)) {
                c.level = low(c);
                return true;
            }
            if (rule == 3 && c.sign != 9 && c.left == c.right) {
                empty = true;
                return true;
            }
            for (Cond o : conds) {
                boolean twoIs = c.sign == 9 && o.sign == 9 && o.isNumber();
                if (rule == 3 && twoIs && c.isNumber() && c.left == o.left && c.right != o.right) {
                    empty = true;
                    return true;
                }
                if (rule == 1 && twoIs && !c.isNumber() && c.left != c.right && conds.size() < 12) {
                    int y = o.left == c.left ? c.right : o.left == c.right ? c.left : NONE;
                    if (y != NONE && !has(y, o.right)) {
                        conds.add(new Cond(y, 9, o.right, seats.size() - 1));
                        return true;
                    }
                }
            }
        }
        return false;
    }

    int rewrite(int rule) {
        needRead();
        argument(in(rule, 4));
        int times = 0;
        while (once(rule)) {
            times++;
        }
        over();
        return times;
    }

    int swap(int one, int other) {
        needRead();
        index(in(one, seats.size()) && in(other, seats.size()));
        int seat = order.get(one);
        order.set(one, order.get(other));
        order.set(other, seat);
        for (Cond c : conds) {
            if (c.level < low(c)) {
                c.level = low(c);
            }
        }
        over();
        return order.get(one);
    }

    private void orders(List<Integer> begun, List<List<Integer>> into) {
        if (begun.size() == seats.size()) {
            into.add(begun);
            return;
        }
        for (int s = 0; s < seats.size(); s++) {
            if (!begun.contains(s)) {
                List<Integer> longer = new ArrayList<>(begun);
                longer.add(s);
                orders(longer, into);
            }
        }
    }

    private void take(List<Integer> o) {
        order = new ArrayList<>(o);
        for (Cond c : conds) {
            c.level = low(c);
        }
    }

    long best() {
        needRead();
        List<List<Integer>> all = new ArrayList<>();
        orders(new ArrayList<>(), all);
        List<Integer> chosen = null;
        long least = 0;
        for (List<Integer> o : all) {
            take(o);
            if (chosen == null || cost() < least) {
                chosen = o;
                least = cost();
            }
        }
        take(chosen);
        over();
        return least;
    }

    int order(int place) {
        needRead();
        index(in(place, seats.size()));
        return order.get(place);
    }

    private long below(int level) {
        return level == 0 ? 1 : guess(level - 1);
    }

    long guess(int level) {
        needRead();
        index(in(level, seats.size()));
        long g = below(level) * tableOf(order.get(level)).rows.size();
        for (Cond c : conds) {
            if (c.level == level) {
                g = g * part(c) / 1000;
            }
        }
        return g;
    }

    long cost() {
        needRead();
        long sum = 0;
        for (int level = 0; level < seats.size() && !empty; level++) {
            sum += below(level) * tableOf(order.get(level)).rows.size();
        }
        return sum;
    }

    boolean isEmpty() {
        needRead();
        return empty;
    }

    // ---- pulling

    private boolean gathers() {
        boolean g = group != NONE;
        for (int[] item : items) {
            g |= item[0] != 0;
        }
        return g;
    }

    private boolean waits() {
        return gathers() || orderItem != NONE;
    }

    private Tour tour(int most) {
        return new Tour(conds, empty ? 0 : most);
    }

    private int[] told(List<int[]> meetings) {
        int[] values = new int[items.size()];
        for (int i = 0; i < values.length; i++) {
            int[] item = items.get(i);
            if (item[0] == 7) {
                values[i] = meetings.size();
            } else if (item[0] == 8) {
                for (int[] m : meetings) {
                    values[i] += cell(item[1], m);
                }
            } else if (!meetings.isEmpty()) {
                values[i] = cell(item[1], meetings.get(0));
            }
        }
        return values;
    }

    private List<int[]> allResults() {
        List<int[]> meetings = tour(Integer.MAX_VALUE).meetings;
        List<int[]> results = new ArrayList<>();
        if (!gathers()) {
            for (int[] m : meetings) {
                results.add(told(List.of(m)));
            }
        } else if (group == NONE) {
            results.add(told(meetings));
        } else {
            TreeMap<Integer, List<int[]>> byValue = new TreeMap<>();
            for (int[] m : meetings) {
                byValue.computeIfAbsent(cell(group, m), v -> new ArrayList<>()).add(m);
            }
            for (List<int[]> g : byValue.values()) {
                results.add(told(g));
            }
        }
        if (orderItem != NONE) {
            results.sort(Comparator.comparingInt(r -> r[orderItem]));
        }
        return limit == NONE || limit > results.size() ? results : results.subList(0, limit);
    }

    /** READS and CHECKS of so many RESULTS; with more than there are, also those to the end. */
    private int[] work(int results) {
        if (results == 0 || limit == 0) {
            return new int[2];
        }
        int most = waits() ? Integer.MAX_VALUE : limit == NONE ? results : Math.min(results, limit);
        Tour t = tour(most);
        return new int[] {t.reads, t.checks};
    }

    int open() {
        needRead();
        over();
        begun = true;
        return items.size();
    }

    boolean next() {
        needRead();
        state(begun);
        pulledAny = true;
        if (pulled < allResults().size()) {
            pulled++;
            return true;
        }
        ended = true;
        return false;
    }

    int value(int item) {
        needRead();
        state(begun && pulled > 0);
        index(in(item, items.size()));
        return allResults().get(pulled - 1)[item];
    }

    int done(int what) {
        needRead();
        argument(in(what, 3));
        if (what == 2) {
            return pulled;
        }
        return pulledAny ? work(ended ? pulled + 1 : pulled)[what] : 0;
    }

    // ---- what would be

    int results() {
        needRead();
        return allResults().size();
    }

    int result(int place, int item) {
        needRead();
        index(in(place, allResults().size()) && in(item, items.size()));
        return allResults().get(place)[item];
    }

    int wouldDo(int what) {
        needRead();
        argument(in(what, 2));
        return work(allResults().size() + 1)[what];
    }

    int meetingsWithout(int condition) {
        needRead();
        index(in(condition, conds.size()));
        List<Cond> others = new ArrayList<>(conds);
        others.remove(condition);
        return new Tour(others, Integer.MAX_VALUE).meetings.size();
    }

    double share() {
        needRead();
        int all = new Tour(new ArrayList<>(), Integer.MAX_VALUE).meetings.size();
        return all == 0 ? 0 : (double) tour(Integer.MAX_VALUE).meetings.size() / all;
    }

    long digest() {
        List<Long> x = new ArrayList<>();
        for (int what = 0; what < 5; what++) {
            x.add((long) many(what));
        }
        for (int t = 0; t < tables.size(); t++) {
            x.add((long) tables.get(t).rows.size());
            for (int[] row : tables.get(t).rows) {
                for (int v : row) {
                    x.add((long) v);
                }
            }
            for (int c = 0; c < tables.get(t).columns; c++) {
                x.add((long) variety(t, c));
            }
        }
        x.add((long) faultAt);
        if (isRead) {
            addRead(x);
        }
        long d = 58086;
        for (long n : x) {
            d = d * 31 + n;
        }
        return d;
    }

    private void addRead(List<Long> x) {
        x.add(empty ? 1L : 0L);
        for (int c = 0; c < conds.size(); c++) {
            for (int what = 0; what < 6; what++) {
                x.add((long) condition(c, what));
            }
        }
        for (int p = 0; p < order.size(); p++) {
            x.add((long) order(p));
            x.add(guess(p));
        }
        x.add(cost());
        for (int what = 0; what < 3; what++) {
            x.add((long) done(what));
        }
        List<int[]> all = allResults();
        x.add((long) all.size());
        for (int r = 0; r < all.size() && r < 10; r++) {
            for (int v : all.get(r)) {
                x.add((long) v);
            }
        }
        x.add((long) wouldDo(0));
        x.add((long) wouldDo(1));
    }
}
