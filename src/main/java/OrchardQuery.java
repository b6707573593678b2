/**
 * An engine for queries: tables get rows, a query is written token by token and read, its plan is
 * rewritten and brought into another order, and its rows are pulled one by one.
 *
 * <p>Words that the document writes in capitals (TABLE, SEAT, LEVEL, LOW, ...) mean here what they
 * mean there.
 */
public final class OrchardQuery {
    private static final int MOST_TABLES = 5;
    private static final int MOST_COLUMNS = 3;
    private static final int MOST_ROWS = 14;
    private static final int MOST_VALUE = 999;
    private static final int MOST_TOKENS = 40;
    private static final int MOST_ITEMS = 4;
    private static final int MOST_SEATS = 3;
    private static final int MOST_READ_CONDITIONS = 6;
    private static final int MOST_CONDITIONS = 12;
    private static final int MOST_MEETINGS = MOST_ROWS * MOST_ROWS * MOST_ROWS;
    /** Above all that can be counted here. */
    private static final int NO_BOUND = 1000000000;
    private static final int NONE = -1;

    private static final int SELECT = 0;
    private static final int FROM = 1;
    private static final int WHERE = 2;
    private static final int AND = 3;
    private static final int GROUP = 4;
    private static final int ORDER = 5;
    private static final int LIMIT = 6;
    private static final int COUNT = 7;
    private static final int SUM = 8;
    private static final int IS = 9;
    private static final int IS_NOT = 10;
    private static final int LESS = 11;
    private static final int FIRST_TABLE = 20;
    private static final int FIRST_COLUMN = 100;
    private static final int COLUMNS_A_SEAT = 10;
    private static final int LAST_COLUMN = 199;
    private static final int FIRST_NUMBER = 1000;
    private static final int LAST_NUMBER = 1999;

    private static final int THOUSAND = 1000;
    private static final int PART_OF_LESS = 333;
    private static final int DIGEST_START = 58086;
    private static final int DIGEST_RESULTS = 10;

    /** All orders of three seats, by the number of the first seat, then of the second. */
    private static final int[] ORDERS = {0, 1, 2, 0, 2, 1, 1, 0, 2, 1, 2, 0, 2, 0, 1, 2, 1, 0};

    private final Store store;
    private final Query query;
    private final Form form;
    private final Plan plan;
    private final Answer answer;
    private final Count count;
    private final Pull pull;

    public OrchardQuery() {
        store = new Store();
        form = new Form();
        plan = new Plan(form);
        query = new Query(store, form, plan);
        answer = new Answer(form, plan);
        count = new Count(form, plan);
        pull = new Pull();
    }

    // ---- tables

    public int table(int columns) throws IllegalArgumentException, IllegalStateException {
        if (columns < 1 || columns > MOST_COLUMNS) {
            throw new IllegalArgumentException("a table has 1 to 3 columns");
        }
        if (store.size() >= MOST_TABLES) {
            throw new IllegalStateException("there are 5 tables");
        }
        return store.add(columns);
    }

    public int row(int table, int a, int b, int c)
            throws IndexOutOfBoundsException, IllegalArgumentException, IllegalStateException {
        if (!store.has(table)) {
            throw new IndexOutOfBoundsException("no such table");
        }
        Table into = store.at(table);
        int columns = into.columnCount();
        if (!isValue(a) || (columns > 1 && !isValue(b)) || (columns > 2 && !isValue(c))) {
            throw new IllegalArgumentException("a value is -999 to 999");
        }
        if (into.isFull()) {
            throw new IllegalStateException("there are 14 rows");
        }
        into.add(a, b, c);
        becomeOther();
        return into.rowCount();
    }

    public int drop(int table, int place) throws IndexOutOfBoundsException {
        if (!store.has(table) || place < 0 || place >= store.at(table).rowCount()) {
            throw new IndexOutOfBoundsException("no such table or row");
        }
        Table from = store.at(table);
        from.remove(place);
        becomeOther();
        return from.rowCount();
    }

    public int variety(int table, int column) throws IndexOutOfBoundsException {
        if (!store.has(table) || column < 0 || column >= store.at(table).columnCount()) {
            throw new IndexOutOfBoundsException("no such table or column");
        }
        return store.at(table).varietyOf(column);
    }

    // ---- the query

    public int token(int token) throws IllegalArgumentException, IllegalStateException {
        if (!isToken(token)) {
            throw new IllegalArgumentException("no such token");
        }
        if (query.length() >= MOST_TOKENS) {
            throw new IllegalStateException("there are 40 tokens");
        }
        query.add(token);
        becomeOther();
        return query.length();
    }

    public int clear() {
        int were = query.length();
        query.empty();
        becomeOther();
        return were;
    }

    public int read() {
        int fault = query.readThrough();
        becomeOther();
        return fault;
    }

    public int faultAt() {
        return query.faultPlace();
    }

    public int many(int what) throws IllegalArgumentException {
        if (what < 0 || what > 4) {
            throw new IllegalArgumentException("what is 0 to 4");
        }
        return howMany(what);
    }

    // ---- the plan

    public int condition(int condition, int what)
            throws IllegalStateException, IndexOutOfBoundsException, IllegalArgumentException {
        refuseUnread();
        if (!plan.hasCondition(condition)) {
            throw new IndexOutOfBoundsException("no such condition");
        }
        if (what < 0 || what > 5) {
            throw new IllegalArgumentException("what is 0 to 5");
        }
        return plan.tell(plan.at(condition), what);
    }

    public int rewrite(int rule) throws IllegalStateException, IllegalArgumentException {
        refuseUnread();
        if (rule < 0 || rule > 3) {
            throw new IllegalArgumentException("a rule is 0 to 3");
        }
        int times = plan.applyRule(rule);
        becomeOther();
        return times;
    }

    public int swap(int one, int other) throws IllegalStateException, IndexOutOfBoundsException {
        refuseUnread();
        if (!form.hasSeat(one) || !form.hasSeat(other)) {
            throw new IndexOutOfBoundsException("no such place");
        }
        plan.exchange(one, other);
        becomeOther();
        return plan.seatAt(one);
    }

    public long best() throws IllegalStateException {
        refuseUnread();
        long least = plan.takeBest();
        becomeOther();
        return least;
    }

    public int order(int place) throws IllegalStateException, IndexOutOfBoundsException {
        refuseUnread();
        if (!form.hasSeat(place)) {
            throw new IndexOutOfBoundsException("no such place");
        }
        return plan.seatAt(place);
    }

    public long guess(int level) throws IllegalStateException, IndexOutOfBoundsException {
        refuseUnread();
        if (!form.hasSeat(level)) {
            throw new IndexOutOfBoundsException("no such level");
        }
        return plan.guessAt(level);
    }

    public long cost() throws IllegalStateException {
        refuseUnread();
        return plan.costOfAll();
    }

    public boolean isEmpty() throws IllegalStateException {
        refuseUnread();
        return plan.isNever();
    }

    // ---- pulling

    public int open() throws IllegalStateException {
        refuseUnread();
        pull.begin();
        return form.itemCount();
    }

    public boolean next() throws IllegalStateException {
        refuseUnread();
        if (!pull.isBegun()) {
            throw new IllegalStateException("nothing is pulled");
        }
        answer.bringUpToDate();
        return pull.take(answer);
    }

    public int value(int item) throws IllegalStateException, IndexOutOfBoundsException {
        refuseUnread();
        if (pull.pulled() == 0) {
            throw new IllegalStateException("no result was pulled");
        }
        if (!form.hasItem(item)) {
            throw new IndexOutOfBoundsException("no such item");
        }
        answer.bringUpToDate();
        return answer.valueOf(pull.pulled() - 1, item);
    }

    public int done(int what) throws IllegalStateException, IllegalArgumentException {
        refuseUnread();
        if (what < 0 || what > 2) {
            throw new IllegalArgumentException("what is 0 to 2");
        }
        return pull.tell(what);
    }

    // ---- what would be

    public int results() throws IllegalStateException {
        refuseUnread();
        answer.bringUpToDate();
        return answer.resultCount();
    }

    public int result(int place, int item) throws IllegalStateException, IndexOutOfBoundsException {
        refuseUnread();
        answer.bringUpToDate();
        if (place < 0 || place >= answer.resultCount() || !form.hasItem(item)) {
            throw new IndexOutOfBoundsException("no such result or item");
        }
        return answer.valueOf(place, item);
    }

    public int wouldDo(int what) throws IllegalStateException, IllegalArgumentException {
        refuseUnread();
        if (what < 0 || what > 1) {
            throw new IllegalArgumentException("what is 0 or 1");
        }
        answer.bringUpToDate();
        return what == 0 ? answer.reads() : answer.checks();
    }

    public int meetingsWithout(int condition)
            throws IllegalStateException, IndexOutOfBoundsException {
        refuseUnread();
        if (!plan.hasCondition(condition)) {
            throw new IndexOutOfBoundsException("no such condition");
        }
        count.walk(condition, NO_BOUND);
        return count.meetings();
    }

    public double share() throws IllegalStateException {
        refuseUnread();
        int all = form.rowsOfAllSeats();
        if (all == 0 || plan.isNever()) {
            return 0;
        }
        count.walk(NONE, NO_BOUND);
        return (double) count.meetings() / all;
    }

    public long digest() {
        long d = DIGEST_START;
        for (int what = 0; what <= 4; what++) {
            d = mix(d, howMany(what));
        }
        for (int table = 0; table < store.size(); table++) {
            d = digestOfTable(d, store.at(table));
        }
        d = mix(d, query.faultPlace());
        if (!query.isRead()) {
            return d;
        }
        answer.bringUpToDate();
        return digestOfResults(digestOfPlan(d));
    }

    private long digestOfTable(long before, Table table) {
        long d = mix(before, table.rowCount());
        for (int row = 0; row < table.rowCount(); row++) {
            for (int column = 0; column < table.columnCount(); column++) {
                d = mix(d, table.cell(row, column));
            }
        }
        for (int column = 0; column < table.columnCount(); column++) {
            d = mix(d, table.varietyOf(column));
        }
        return d;
    }

    private long digestOfPlan(long before) {
        long d = mix(before, plan.isNever() ? 1 : 0);
        for (int i = 0; i < plan.conditionCount(); i++) {
            for (int what = 0; what <= 5; what++) {
                d = mix(d, plan.tell(plan.at(i), what));
            }
        }
        for (int place = 0; place < form.seatCount(); place++) {
            d = mix(d, plan.seatAt(place));
            d = mix(d, plan.guessAt(place));
        }
        return mix(d, plan.costOfAll());
    }

    private long digestOfResults(long before) {
        long d = before;
        for (int what = 0; what <= 2; what++) {
            d = mix(d, pull.tell(what));
        }
        d = mix(d, answer.resultCount());
        for (int place = 0; place < answer.resultCount() && place < DIGEST_RESULTS; place++) {
            for (int item = 0; item < form.itemCount(); item++) {
                d = mix(d, answer.valueOf(place, item));
            }
        }
        return mix(mix(d, answer.reads()), answer.checks());
    }

    private int howMany(int what) {
        if (what == 0) {
            return store.size();
        }
        if (what == 1) {
            return query.length();
        }
        if (!query.isRead()) {
            return 0;
        }
        if (what == 2) {
            return form.itemCount();
        }
        return what == 3 ? form.seatCount() : plan.conditionCount();
    }

    private void refuseUnread() throws IllegalStateException {
        if (!query.isRead()) {
            throw new IllegalStateException("the query is not read");
        }
    }

    /** What ends a pull is just what can make another answer due, so both go together. */
    private void becomeOther() {
        pull.end();
        answer.forget();
    }

    private static long mix(long d, long x) {
        return d * 31 + x;
    }

    private static boolean isValue(int value) {
        return value >= -MOST_VALUE && value <= MOST_VALUE;
    }

    private static boolean isToken(int token) {
        return (token >= SELECT && token <= LESS)
                || isTable(token) || isColumn(token) || isNumber(token);
    }

    private static boolean isTable(int token) {
        return token >= FIRST_TABLE && token < FIRST_TABLE + MOST_TABLES;
    }

    private static boolean isColumn(int token) {
        return token >= FIRST_COLUMN && token <= LAST_COLUMN;
    }

    private static boolean isNumber(int token) {
        return token >= FIRST_NUMBER && token <= LAST_NUMBER;
    }

    private static int seatOf(int columnToken) {
        return (columnToken - FIRST_COLUMN) / COLUMNS_A_SEAT;
    }

    private static int columnOf(int columnToken) {
        return (columnToken - FIRST_COLUMN) % COLUMNS_A_SEAT;
    }

    private static int get(int[] from, int index) {
        return index >= 0 && index < from.length ? from[index] : 0;
    }

    private static void put(int[] into, int index, int number) {
        if (index >= 0 && index < into.length) {
            into[index] = number;
        }
    }

    private static void fill(int[] into, int number) {
        for (int i = 0; i < into.length; i++) {
            into[i] = number;
        }
    }

    /** A TABLE; its ROWS lie one behind the other, each with room for three VALUES. */
    private static final class Table {
        private final int columns;
        private final int[] cells;
        private final int[] varieties;
        private int rows;

        Table(int columns) {
            this.columns = columns;
            cells = new int[MOST_ROWS * MOST_COLUMNS];
            varieties = new int[MOST_COLUMNS];
        }

        int columnCount() {
            return columns;
        }

        int rowCount() {
            return rows;
        }

        boolean isFull() {
            return rows >= MOST_ROWS;
        }

        int cell(int row, int column) {
            if (row < 0 || row >= rows || column < 0 || column >= columns) {
                return 0;
            }
            int index = row * MOST_COLUMNS + column;
            return index >= 0 && index < cells.length ? cells[index] : 0;
        }

        void add(int a, int b, int c) {
            if (isFull()) {
                return;
            }
            int start = rows * MOST_COLUMNS;
            put(cells, start, a);
            put(cells, start + 1, b);
            put(cells, start + 2, c);
            rows++;
            countVarieties();
        }

        void remove(int row) {
            if (row < 0 || row >= rows) {
                return;
            }
            for (int i = row * MOST_COLUMNS; i < cells.length; i++) {
                put(cells, i, get(cells, i + MOST_COLUMNS));
            }
            rows--;
            countVarieties();
        }

        int varietyOf(int column) {
            return get(varieties, column);
        }

        private void countVarieties() {
            for (int column = 0; column < columns; column++) {
                int different = 0;
                for (int row = 0; row < rows; row++) {
                    if (firstAlike(row, column) == row) {
                        different++;
                    }
                }
                put(varieties, column, different);
            }
        }

        /** The first ROW that has the same VALUE there as this one. */
        int firstAlike(int row, int column) {
            int sought = cell(row, column);
            for (int i = 0; i < row && i < rows; i++) {
                if (cell(i, column) == sought) {
                    return i;
                }
            }
            return row;
        }
    }

    /** The TABLES. */
    private static final class Store {
        private final Table[] tables;
        private final Table nowhere;
        private int size;

        Store() {
            tables = new Table[MOST_TABLES];
            nowhere = new Table(0);
        }

        int size() {
            return size;
        }

        boolean has(int table) {
            return table >= 0 && table < size;
        }

        Table at(int table) {
            if (table < 0 || table >= tables.length) {
                return nowhere;
            }
            Table found = tables[table];
            return found == null ? nowhere : found;
        }

        int add(int columns) {
            int number = size;
            if (number >= 0 && number < tables.length) {
                tables[number] = new Table(columns);
                size++;
            }
            return number;
        }
    }

    /** What a QUERY that was read asks for, but for its CONDITIONS. */
    private static final class Form {
        private final int[] kinds;
        private final int[] columns;
        private final Table[] tables;
        private final Table nowhere;
        private int itemCount;
        private int seatCount;
        private int group;
        private int orderItem;
        private int limit;

        Form() {
            kinds = new int[MOST_ITEMS];
            columns = new int[MOST_ITEMS];
            tables = new Table[MOST_SEATS];
            nowhere = new Table(0);
        }

        void begin() {
            itemCount = 0;
            seatCount = 0;
            group = NONE;
            orderItem = NONE;
            limit = NO_BOUND;
        }

        /** The kind is COUNT, SUM or, for a COLUMN as it stands, NONE. */
        void addItem(int kind, int column) {
            put(kinds, itemCount, kind);
            put(columns, itemCount, column);
            itemCount++;
        }

        void addSeat(Table table) {
            if (seatCount >= 0 && seatCount < tables.length) {
                tables[seatCount] = table;
                seatCount++;
            }
        }

        void groupBy(int column) {
            group = column;
        }

        void orderBy(int item) {
            orderItem = item;
        }

        void limitTo(int most) {
            limit = most;
        }

        int itemCount() {
            return itemCount;
        }

        int seatCount() {
            return seatCount;
        }

        int group() {
            return group;
        }

        int orderItem() {
            return orderItem;
        }

        int limit() {
            return limit;
        }

        int kindOf(int item) {
            return get(kinds, item);
        }

        int columnOfItem(int item) {
            return get(columns, item);
        }

        boolean hasItem(int item) {
            return item >= 0 && item < itemCount;
        }

        boolean hasSeat(int seat) {
            return seat >= 0 && seat < seatCount;
        }

        Table tableOf(int seat) {
            if (seat < 0 || seat >= seatCount || seat >= tables.length) {
                return nowhere;
            }
            Table found = tables[seat];
            return found == null ? nowhere : found;
        }

        boolean hasColumn(int columnToken) {
            return columnOf(columnToken) < tableOf(seatOf(columnToken)).columnCount();
        }

        int varietyOf(int columnToken) {
            return tableOf(seatOf(columnToken)).varietyOf(columnOf(columnToken));
        }

        int rowsOfAllSeats() {
            int all = 1;
            for (int seat = 0; seat < seatCount; seat++) {
                all *= tableOf(seat).rowCount();
            }
            return all;
        }

        boolean isGathered() {
            boolean gathered = group != NONE;
            for (int item = 0; item < itemCount; item++) {
                gathered = gathered || kindOf(item) != NONE;
            }
            return gathered;
        }

        /** Whether a RESULT can be told as soon as its MEETING is found. */
        boolean isStreamed() {
            return orderItem == NONE && !isGathered();
        }
    }

    /** The TOKENS, and how they are read into a form and a plan. */
    private static final class Query {
        private final Store store;
        private final Form form;
        private final Plan plan;
        private final int[] tokens;
        private int length;
        private boolean isRead;
        private int fault;
        private int faultPlace;
        private int place;
        private int orderPlace;

        Query(Store store, Form form, Plan plan) {
            this.store = store;
            this.form = form;
            this.plan = plan;
            tokens = new int[MOST_TOKENS];
            faultPlace = NONE;
        }

        int length() {
            return length;
        }

        boolean isRead() {
            return isRead;
        }

        int faultPlace() {
            return faultPlace;
        }

        void add(int token) {
            if (length < tokens.length) {
                put(tokens, length, token);
                length++;
            }
            forgetReading();
        }

        void empty() {
            length = 0;
            forgetReading();
        }

        private void forgetReading() {
            isRead = false;
            faultPlace = NONE;
        }

        int readThrough() {
            place = 0;
            fault = 0;
            faultPlace = NONE;
            form.begin();
            plan.begin();
            isRead = readsHead() && readsTail() && findsColumns() && findsOrderItem();
            return fault;
        }

        private boolean readsHead() {
            if (ahead() != SELECT) {
                return fails(1, place);
            }
            place++;
            return readsItems() && readsTables();
        }

        private boolean readsTail() {
            if (!readsConditions() || !readsGroup() || !readsOrder() || !readsLimit()) {
                return false;
            }
            return place == length || fails(9, place);
        }

        private boolean readsItems() {
            if (!readsItem()) {
                return false;
            }
            for (int i = 1; i < MOST_ITEMS && beginsItem(ahead()); i++) {
                if (!readsItem()) {
                    return false;
                }
            }
            if (ahead() != FROM) {
                return fails(3, place);
            }
            place++;
            return true;
        }

        private boolean readsItem() {
            int kind = ahead();
            if (!beginsItem(kind)) {
                return fails(2, place);
            }
            place++;
            if (kind == COUNT) {
                form.addItem(COUNT, NONE);
            } else if (kind != SUM) {
                form.addItem(NONE, kind);
            } else if (isColumn(ahead())) {
                form.addItem(SUM, ahead());
                place++;
            } else {
                return fails(2, place);
            }
            return true;
        }

        private boolean readsTables() {
            for (int i = 0; i < MOST_SEATS; i++) {
                int table = ahead() - FIRST_TABLE;
                if (i > 0 && !isTable(ahead())) {
                    return true;
                }
                if (!isTable(ahead()) || !store.has(table)) {
                    return fails(4, place);
                }
                form.addSeat(store.at(table));
                place++;
            }
            return true;
        }

        private boolean readsConditions() {
            int opener = WHERE;
            for (int i = 0; i < MOST_READ_CONDITIONS && ahead() == opener; i++) {
                place++;
                if (!readsCondition()) {
                    return false;
                }
                opener = AND;
            }
            return true;
        }

        private boolean readsCondition() {
            int left = ahead();
            if (!isColumn(left)) {
                return fails(5, place);
            }
            place++;
            int sign = ahead();
            if (sign != IS && sign != IS_NOT && sign != LESS) {
                return fails(6, place);
            }
            place++;
            int right = ahead();
            if (!isColumn(right) && !isNumber(right)) {
                return fails(7, place);
            }
            place++;
            plan.add(left, sign, right);
            return true;
        }

        private boolean readsGroup() {
            if (ahead() != GROUP) {
                return true;
            }
            place++;
            if (!isColumn(ahead())) {
                return fails(5, place);
            }
            form.groupBy(ahead());
            place++;
            return true;
        }

        private boolean readsOrder() {
            if (ahead() != ORDER) {
                return true;
            }
            place++;
            if (!isNumber(ahead())) {
                return fails(8, place);
            }
            form.orderBy(ahead() - FIRST_NUMBER);
            orderPlace = place;
            place++;
            return true;
        }

        private boolean readsLimit() {
            if (ahead() != LIMIT) {
                return true;
            }
            place++;
            if (!isNumber(ahead())) {
                return fails(8, place);
            }
            form.limitTo(ahead() - FIRST_NUMBER);
            place++;
            return true;
        }

        private boolean findsColumns() {
            for (int i = 0; i < length; i++) {
                int token = get(tokens, i);
                if (isColumn(token) && !form.hasColumn(token)) {
                    return fails(10, i);
                }
            }
            return true;
        }

        private boolean findsOrderItem() {
            int item = form.orderItem();
            return item == NONE || form.hasItem(item) || fails(11, orderPlace);
        }

        /** The TOKEN to be read now; NONE at the end. */
        private int ahead() {
            return place < length ? get(tokens, place) : NONE;
        }

        private boolean beginsItem(int token) {
            return token == COUNT || token == SUM || isColumn(token);
        }

        private boolean fails(int number, int at) {
            fault = number;
            faultPlace = at;
            return false;
        }
    }

    /** A CONDITION of the plan, with TOKENS on its sides. */
    private static final class Condition {
        private int left;
        private int sign;
        private int right;
        private int level;

        void become(int left, int sign, int right, int level) {
            this.left = left;
            this.sign = sign;
            this.right = right;
            this.level = level;
        }

        boolean isSameTwice() {
            return left == right;
        }

        boolean joins() {
            return sign == IS && isColumn(right) && left != right;
        }

        boolean fixes() {
            return sign == IS && isNumber(right);
        }

        /** The COLUMN that this one joins to another; NONE if that is not in it. */
        int partnerOf(int column) {
            if (left == column) {
                return right;
            }
            return right == column ? left : NONE;
        }
    }

    /** The PLAN. */
    private static final class Plan {
        private final Form form;
        private final Condition[] conditions;
        private final Condition nothing;
        private final int[] order;
        private int size;
        private boolean isNever;

        Plan(Form form) {
            this.form = form;
            conditions = new Condition[MOST_CONDITIONS];
            for (int i = 0; i < conditions.length; i++) {
                conditions[i] = new Condition();
            }
            nothing = new Condition();
            order = new int[MOST_SEATS];
        }

        void begin() {
            size = 0;
            isNever = false;
            bringInto(0);
        }

        int conditionCount() {
            return size;
        }

        boolean hasCondition(int condition) {
            return condition >= 0 && condition < size;
        }

        boolean isNever() {
            return isNever;
        }

        int seatAt(int place) {
            return get(order, place);
        }

        Condition at(int index) {
            if (index < 0 || index >= conditions.length) {
                return nothing;
            }
            Condition found = conditions[index];
            return found == null ? nothing : found;
        }

        void add(int left, int sign, int right) {
            if (size < conditions.length) {
                at(size).become(left, sign, right, form.seatCount() - 1);
                size++;
            }
        }

        private void remove(int index) {
            for (int i = index; i + 1 < size; i++) {
                Condition behind = at(i + 1);
                at(i).become(behind.left, behind.sign, behind.right, behind.level);
            }
            size--;
        }

        int tell(Condition condition, int what) {
            switch (what) {
                case 0:
                    return condition.left;
                case 1:
                    return condition.sign;
                case 2:
                    return condition.right;
                case 3:
                    return condition.level;
                case 4:
                    return lowOf(condition);
                default:
                    return partOf(condition);
            }
        }

        private int lowOf(Condition condition) {
            int low = placeOf(seatOf(condition.left));
            if (!isColumn(condition.right)) {
                return low;
            }
            return Math.max(low, placeOf(seatOf(condition.right)));
        }

        private int placeOf(int seat) {
            for (int place = 0; place < order.length; place++) {
                if (order[place] == seat) {
                    return place;
                }
            }
            return 0;
        }

        private int partOf(Condition condition) {
            if (condition.sign == LESS) {
                return PART_OF_LESS;
            }
            int variety = form.varietyOf(condition.left);
            if (isColumn(condition.right)) {
                variety = Math.max(variety, form.varietyOf(condition.right));
            }
            int part = variety > 0 ? THOUSAND / variety : THOUSAND;
            return condition.sign == IS ? part : THOUSAND - part;
        }

        long guessAt(int level) {
            long guess = 1;
            for (int place = 0; place <= level && place < form.seatCount(); place++) {
                guess = thinned(guess * rowsAt(place), place);
            }
            return guess;
        }

        long costOfAll() {
            if (isNever) {
                return 0;
            }
            long cost = 0;
            long guess = 1;
            for (int place = 0; place < form.seatCount(); place++) {
                long looked = guess * rowsAt(place);
                cost += looked;
                guess = thinned(looked, place);
            }
            return cost;
        }

        private int rowsAt(int place) {
            return form.tableOf(seatAt(place)).rowCount();
        }

        private long thinned(long guess, int level) {
            long left = guess;
            for (int i = 0; i < size; i++) {
                if (at(i).level == level) {
                    left = left * partOf(at(i)) / THOUSAND;
                }
            }
            return left;
        }

        int applyRule(int rule) {
            switch (rule) {
                case 0:
                    return dropTrue();
                case 1:
                    return draw();
                case 2:
                    return bringDown();
                default:
                    return becomeNever() ? 1 : 0;
            }
        }

        private int dropTrue() {
            int times = 0;
            for (int i = size - 1; i >= 0; i--) {
                if (at(i).sign == IS && at(i).isSameTwice()) {
                    remove(i);
                    times++;
                }
            }
            return times;
        }

        private int draw() {
            int times = 0;
            for (int room = MOST_CONDITIONS - size; room > 0 && drawsOne(); room--) {
                times++;
            }
            return times;
        }

        private boolean drawsOne() {
            for (int i = 0; i < size; i++) {
                for (int j = 0; j < size; j++) {
                    if (drawsFrom(at(i), at(j))) {
                        return true;
                    }
                }
            }
            return false;
        }

        private boolean drawsFrom(Condition join, Condition fix) {
            if (!join.joins() || !fix.fixes()) {
                return false;
            }
            int partner = join.partnerOf(fix.left);
            if (partner == NONE || isFixed(partner, fix.right)) {
                return false;
            }
            add(partner, IS, fix.right);
            return true;
        }

        private boolean isFixed(int column, int number) {
            for (int i = 0; i < size; i++) {
                Condition condition = at(i);
                if (condition.sign == IS && condition.left == column && condition.right == number) {
                    return true;
                }
            }
            return false;
        }

        private int bringDown() {
            int times = 0;
            for (int i = 0; i < size; i++) {
                int low = lowOf(at(i));
                if (at(i).level > low) {
                    at(i).level = low;
                    times++;
                }
            }
            return times;
        }

        private boolean becomeNever() {
            if (isNever) {
                return false;
            }
            for (int i = 0; i < size; i++) {
                Condition one = at(i);
                isNever = isNever || (one.sign != IS && one.isSameTwice());
                for (int j = 0; j < i; j++) {
                    isNever = isNever || contradict(one, at(j));
                }
            }
            return isNever;
        }

        private boolean contradict(Condition one, Condition other) {
            return one.fixes() && other.fixes()
                    && one.left == other.left && one.right != other.right;
        }

        void exchange(int one, int other) {
            int seat = seatAt(one);
            put(order, one, seatAt(other));
            put(order, other, seat);
            for (int i = 0; i < size; i++) {
                at(i).level = Math.max(at(i).level, lowOf(at(i)));
            }
        }

        long takeBest() {
            long least = NONE;
            int chosen = 0;
            for (int start = 0; start < ORDERS.length; start += MOST_SEATS) {
                if (!isOrder(start)) {
                    continue;
                }
                bringInto(start);
                long cost = costOfAll();
                if (least == NONE || cost < least) {
                    least = cost;
                    chosen = start;
                }
            }
            bringInto(chosen);
            return least;
        }

        /** With fewer than three seats the places behind them keep their own number. */
        private boolean isOrder(int start) {
            for (int place = form.seatCount(); place < MOST_SEATS; place++) {
                if (get(ORDERS, start + place) != place) {
                    return false;
                }
            }
            return true;
        }

        private void bringInto(int start) {
            for (int place = 0; place < order.length; place++) {
                order[place] = get(ORDERS, start + place);
            }
            for (int i = 0; i < size; i++) {
                at(i).level = lowOf(at(i));
            }
        }
    }

    /** A way through the ROWS of a plan; what is done with a MEETING is its own. */
    private abstract static class Walk {
        final Form form;
        final Plan plan;
        private final int[] rows;
        private int without;
        private int most;
        private int reads;
        private int checks;
        private int meetings;

        Walk(Form form, Plan plan) {
            this.form = form;
            this.plan = plan;
            rows = new int[MOST_SEATS];
        }

        abstract void meet();

        int reads() {
            return reads;
        }

        int checks() {
            return checks;
        }

        int meetings() {
            return meetings;
        }

        /** The MEETING that was found last, as one number: the ROW of each SEAT is a digit of it. */
        int meeting() {
            return get(rows, 0) + MOST_ROWS * (get(rows, 1) + MOST_ROWS * get(rows, 2));
        }

        void walk(int without, int most) {
            this.without = without;
            this.most = most;
            reads = 0;
            checks = 0;
            meetings = 0;
            fill(rows, 0);
            goThrough(0);
        }

        private void goThrough(int place) {
            if (place >= form.seatCount() || place >= MOST_SEATS) {
                return;
            }
            int seat = plan.seatAt(place);
            int all = form.tableOf(seat).rowCount();
            for (int row = 0; row < all && meetings < most; row++) {
                put(rows, seat, row);
                reads++;
                if (!holdsAt(place)) {
                    continue;
                }
                if (place + 1 < form.seatCount()) {
                    goThrough(place + 1);
                } else {
                    meetings++;
                    meet();
                }
            }
        }

        private boolean holdsAt(int level) {
            for (int i = 0; i < plan.conditionCount(); i++) {
                Condition condition = plan.at(i);
                if (condition.level != level || i == without) {
                    continue;
                }
                checks++;
                int left = valueNow(condition.left);
                int right = valueNow(condition.right);
                boolean holds = condition.sign == LESS ? left < right
                        : (left == right) == (condition.sign == IS);
                if (!holds) {
                    return false;
                }
            }
            return true;
        }

        private int valueNow(int token) {
            if (isNumber(token)) {
                return token - FIRST_NUMBER;
            }
            int seat = seatOf(token);
            return form.tableOf(seat).cell(get(rows, seat), columnOf(token));
        }
    }

    /** Only counts the MEETINGS. */
    private static final class Count extends Walk {
        Count(Form form, Plan plan) {
            super(form, plan);
        }

        void meet() {
            // the walk itself counts
        }
    }

    /**
     * All RESULTS as they are now, kept till something becomes another one. Each of them is a number:
     * that of its MEETING or, if they are gathered, that of its group.
     */
    private static final class Answer extends Walk {
        private final Groups groups;
        private final int[] found;
        private final int[] readsAt;
        private final int[] checksAt;
        private final int[] keys;
        private final int[] sorted;
        private int size;
        private int resultCount;
        private boolean isKnown;

        Answer(Form form, Plan plan) {
            super(form, plan);
            groups = new Groups(form);
            found = new int[MOST_MEETINGS];
            readsAt = new int[MOST_MEETINGS];
            checksAt = new int[MOST_MEETINGS];
            keys = new int[MOST_MEETINGS];
            sorted = new int[MOST_MEETINGS];
        }

        void forget() {
            isKnown = false;
        }

        void bringUpToDate() {
            if (isKnown) {
                return;
            }
            size = 0;
            groups.begin();
            walk(NONE, plan.isNever() ? 0 : mostNeeded());
            if (form.isGathered()) {
                listGroups();
            }
            if (form.orderItem() != NONE) {
                sortByItem(form.orderItem());
            }
            resultCount = Math.min(size, form.limit());
            isKnown = true;
        }

        /** With LIMIT 0 nothing is read, even where all would be needed for the first RESULT. */
        private int mostNeeded() {
            return form.isStreamed() || form.limit() == 0 ? form.limit() : NO_BOUND;
        }

        int resultCount() {
            return resultCount;
        }

        /** READS that are needed for so many RESULTS (at least one). */
        int readsFor(int results) {
            return form.isStreamed() ? get(readsAt, results - 1) : reads();
        }

        int checksFor(int results) {
            return form.isStreamed() ? get(checksAt, results - 1) : checks();
        }

        int valueOf(int place, int item) {
            int number = get(found, place);
            if (form.isGathered()) {
                return groups.valueOf(number, item);
            }
            return groups.cellOf(number, form.columnOfItem(item));
        }

        void meet() {
            if (form.isGathered()) {
                groups.gather(groups.groupOf(meeting()), meeting());
                return;
            }
            put(found, size, meeting());
            put(readsAt, size, reads());
            put(checksAt, size, checks());
            size++;
        }

        private void listGroups() {
            if (form.group() == NONE) {
                put(found, 0, 0);
                size = 1;
                return;
            }
            for (int group = 0; group < MOST_ROWS; group++) {
                if (groups.countOf(group) > 0) {
                    put(found, size, group);
                    put(keys, size, groups.nameOf(group));
                    size++;
                }
            }
            sortByKeys();
        }

        private void sortByItem(int item) {
            for (int i = 0; i < size; i++) {
                put(keys, i, valueOf(i, item));
            }
            sortByKeys();
        }

        /** One turn a key is enough: no more than 14 are different, as a COLUMN has 14 ROWS. */
        private void sortByKeys() {
            int done = 0;
            int before = -NO_BOUND;
            for (int turn = 0; turn < MOST_ROWS && done < size; turn++) {
                int key = smallestKeyBehind(before);
                for (int i = 0; i < size; i++) {
                    if (get(keys, i) == key) {
                        put(sorted, done, get(found, i));
                        done++;
                    }
                }
                before = key;
            }
            for (int i = 0; i < size; i++) {
                put(found, i, get(sorted, i));
            }
        }

        private int smallestKeyBehind(int before) {
            int smallest = NO_BOUND;
            for (int i = 0; i < size; i++) {
                int key = get(keys, i);
                if (key > before && key < smallest) {
                    smallest = key;
                }
            }
            return smallest;
        }
    }

    /** MEETINGS gathered by the VALUE of GROUP: a group has the number of the first ROW with it. */
    private static final class Groups {
        private final Form form;
        private final int[] counts;
        private final int[] firsts;
        private final int[] sums;

        Groups(Form form) {
            this.form = form;
            counts = new int[MOST_ROWS];
            firsts = new int[MOST_ROWS];
            sums = new int[MOST_ROWS * MOST_ITEMS];
        }

        void begin() {
            fill(counts, 0);
            fill(firsts, 0);
            fill(sums, 0);
        }

        void gather(int group, int meeting) {
            if (get(counts, group) == 0) {
                put(firsts, group, meeting);
            }
            put(counts, group, get(counts, group) + 1);
            for (int item = 0; item < form.itemCount(); item++) {
                if (form.kindOf(item) == SUM) {
                    int index = group * MOST_ITEMS + item;
                    put(sums, index, get(sums, index) + cellOf(meeting, form.columnOfItem(item)));
                }
            }
        }

        int groupOf(int meeting) {
            if (form.group() == NONE) {
                return 0;
            }
            int seat = seatOf(form.group());
            return form.tableOf(seat).firstAlike(rowOf(meeting, seat), columnOf(form.group()));
        }

        int countOf(int group) {
            return get(counts, group);
        }

        /** The VALUE of GROUP that all MEETINGS of this group have. */
        int nameOf(int group) {
            return form.tableOf(seatOf(form.group())).cell(group, columnOf(form.group()));
        }

        int valueOf(int group, int item) {
            int kind = form.kindOf(item);
            if (kind == COUNT) {
                return countOf(group);
            }
            if (kind == SUM) {
                return get(sums, group * MOST_ITEMS + item);
            }
            return countOf(group) == 0 ? 0 : cellOf(get(firsts, group), form.columnOfItem(item));
        }

        int cellOf(int meeting, int columnToken) {
            int seat = seatOf(columnToken);
            return form.tableOf(seat).cell(rowOf(meeting, seat), columnOf(columnToken));
        }

        private static int rowOf(int meeting, int seat) {
            if (seat == 0) {
                return meeting % MOST_ROWS;
            }
            int others = meeting / MOST_ROWS;
            return seat == 1 ? others % MOST_ROWS : others / MOST_ROWS;
        }
    }

    /** How far one has pulled. */
    private static final class Pull {
        private boolean isBegun;
        private int pulled;
        private int reads;
        private int checks;

        void begin() {
            end();
            isBegun = true;
        }

        void end() {
            isBegun = false;
            pulled = 0;
            reads = 0;
            checks = 0;
        }

        boolean isBegun() {
            return isBegun;
        }

        int pulled() {
            return pulled;
        }

        boolean take(Answer answer) {
            boolean found = pulled < answer.resultCount();
            if (found) {
                pulled++;
            }
            reads = found ? answer.readsFor(pulled) : answer.reads();
            checks = found ? answer.checksFor(pulled) : answer.checks();
            return found;
        }

        int tell(int what) {
            if (what == 2) {
                return pulled;
            }
            return what == 0 ? reads : checks;
        }
    }
}
