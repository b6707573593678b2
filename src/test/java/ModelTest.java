import java.util.ArrayList;
import java.util.List;
import java.util.Random;

/** Random runs of calls, always the same ones, on the class and on the model: all answers are alike. */
public final class ModelTest {
    private static final int RUNS = 3000;
    private static final int CALLS = 512;

    private interface Call {
        Object answer();
    }

    private final Random random;
    private final OrchardQuery real = new OrchardQuery();
    private final Model model = new Model();
    private final List<String> told = new ArrayList<>();
    private final int widest;
    private final int values;
    private int[] columns = new int[0];
    private boolean alike = true;

    private ModelTest(long seed) {
        random = new Random(seed);
        widest = 1 + random.nextInt(14);
        values = 1 + random.nextInt(6);
    }

    private static String outcome(Call call) {
        try {
            return String.valueOf(call.answer());
        } catch (RuntimeException e) {
            return "throws." + e.getClass().getSimpleName();
        }
    }

    /** What later calls than the 512th answer is free, so none is made. */
    private String both(String name, Call r, Call m) {
        if (told.size() >= CALLS) {
            return "throws";
        }
        String got = outcome(r);
        String due = outcome(m);
        told.add(name + " " + got);
        if (!got.equals(due)) {
            alike = false;
            told.add("    due is " + due);
        }
        return got;
    }

    private int upTo(int n) {
        return random.nextInt(n);
    }

    /** Mostly a number that is there; else one beside it, or far away. */
    private int index(int size) {
        int kind = upTo(12);
        if (kind == 0) {
            return size;
        }
        if (kind == 1) {
            return -1;
        }
        if (kind == 2) {
            int[] far = {Integer.MIN_VALUE, Integer.MAX_VALUE, size + 1, 14, -14, 1000};
            return far[upTo(far.length)];
        }
        return upTo(Math.max(1, size));
    }

    private int cell() {
        if (upTo(60) == 0) {
            int[] edges = {-999, 999, -1000, 1000, Integer.MIN_VALUE, Integer.MAX_VALUE};
            return edges[upTo(edges.length)];
        }
        return upTo(values) - (upTo(8) == 0 ? 2 : 0);
    }

    private void addTable() {
        int c = upTo(8) == 0 ? index(4) : 1 + upTo(3);
        String got = both("table(" + c + ")", () -> real.table(c), () -> model.table(c));
        if (!got.startsWith("throws")) {
            int[] more = java.util.Arrays.copyOf(columns, columns.length + 1);
            more[columns.length] = c;
            columns = more;
        }
    }

    private void addRow() {
        int t = upTo(15) == 0 ? index(columns.length) : upTo(Math.max(1, columns.length));
        int a = cell();
        int b = cell();
        int c = cell();
        both("row(" + t + ", " + a + ", " + b + ", " + c + ")",
                () -> real.row(t, a, b, c), () -> model.row(t, a, b, c));
    }

    private void add(int token) {
        both("token(" + token + ")", () -> real.token(token), () -> model.token(token));
    }

    private int columnToken(int[] seats) {
        if (upTo(150) == 0) {
            return 100 + upTo(100);
        }
        int seat = upTo(seats.length);
        int width = seats[seat] < columns.length ? columns[seats[seat]] : 1;
        return 100 + 10 * seat + upTo(width);
    }

    /** A query that is mostly right. */
    private List<Integer> query() {
        List<Integer> q = new ArrayList<>();
        int[] seats = new int[1 + upTo(3)];
        for (int i = 0; i < seats.length; i++) {
            seats[i] = upTo(40) == 0 ? upTo(5) : upTo(Math.max(1, columns.length));
        }
        q.add(0);
        boolean plain = upTo(2) == 0;
        int items = 1 + upTo(4);
        for (int i = 0; i < items; i++) {
            int kind = plain ? 0 : upTo(3);
            if (kind == 1) {
                q.add(7);
                continue;
            }
            if (kind == 2) {
                q.add(8);
            }
            q.add(columnToken(seats));
        }
        q.add(1);
        for (int s : seats) {
            q.add(20 + s);
        }
        int conditions = upTo(3) == 0 ? 0 : 1 + upTo(6);
        int same = columnToken(seats);
        for (int i = 0; i < conditions; i++) {
            q.add(i == 0 ? 2 : 3);
            q.add(upTo(3) == 0 ? same : columnToken(seats));
            int sign = upTo(8);
            q.add(sign < 5 ? 9 : sign < 6 ? 10 : 11);
            q.add(upTo(2) == 0 ? 1000 + upTo(values) : upTo(4) == 0 ? same : columnToken(seats));
        }
        if (upTo(4) == 0) {
            q.add(4);
            q.add(columnToken(seats));
        }
        if (upTo(3) == 0) {
            q.add(5);
            q.add(1000 + upTo(upTo(30) == 0 ? 6 : items));
        }
        if (upTo(3) == 0) {
            q.add(6);
            q.add(1000 + upTo(upTo(2) == 0 ? 4 : 40));
        }
        return q;
    }

    private int anyToken() {
        int kind = upTo(10);
        if (kind < 6) {
            return upTo(12);
        }
        if (kind == 6) {
            return 20 + upTo(5);
        }
        if (kind == 7) {
            return 100 + upTo(100);
        }
        if (kind == 8) {
            return 1000 + upTo(1000);
        }
        int[] edges = {-1, 12, 19, 25, 99, 200, 999, 2000, Integer.MIN_VALUE, Integer.MAX_VALUE};
        return edges[upTo(edges.length)];
    }

    private void write() {
        both("clear()", real::clear, model::clear);
        List<Integer> q = query();
        int harm = upTo(10);
        if (harm == 0) {
            q.set(upTo(q.size()), anyToken());
        } else if (harm == 1) {
            q.remove(upTo(q.size()));
        } else if (harm == 2) {
            q.add(upTo(q.size() + 1), anyToken());
        } else if (harm == 3 && upTo(2) == 0) {
            q = q.subList(0, upTo(q.size()));
        }
        for (int token : q) {
            add(token);
        }
        both("read()", real::read, model::read);
        both("faultAt()", real::faultAt, model::faultAt);
    }

    private void askPlan() {
        int i = index(Math.max(3, model.many(4)));
        int what = index(6);
        switch (upTo(9)) {
            case 0:
                both("condition(" + i + ", " + what + ")",
                        () -> real.condition(i, what), () -> model.condition(i, what));
                break;
            case 1:
            case 2: {
                int rule = index(4);
                both("rewrite(" + rule + ")", () -> real.rewrite(rule), () -> model.rewrite(rule));
                break;
            }
            case 3: {
                int one = index(3);
                int other = index(3);
                both("swap(" + one + ", " + other + ")",
                        () -> real.swap(one, other), () -> model.swap(one, other));
                break;
            }
            case 4:
                both("best()", real::best, model::best);
                break;
            case 5: {
                int place = index(3);
                both("order(" + place + ")", () -> real.order(place), () -> model.order(place));
                break;
            }
            case 6: {
                int level = index(3);
                both("guess(" + level + ")", () -> real.guess(level), () -> model.guess(level));
                break;
            }
            case 7:
                both("cost()", real::cost, model::cost);
                break;
            default:
                both("isEmpty()", real::isEmpty, model::isEmpty);
        }
    }

    private void pull() {
        switch (upTo(8)) {
            case 0:
                both("open()", real::open, model::open);
                break;
            case 1:
            case 2:
            case 3:
                both("next()", real::next, model::next);
                break;
            case 4:
            case 5: {
                int item = index(Math.max(1, model.many(2)));
                both("value(" + item + ")", () -> real.value(item), () -> model.value(item));
                break;
            }
            default: {
                int what = index(3);
                both("done(" + what + ")", () -> real.done(what), () -> model.done(what));
            }
        }
    }

    /** Pulls on for a while; now and then something between that does not end it. */
    private void pullOn() {
        both("open()", real::open, model::open);
        int most = 1 + upTo(upTo(2) == 0 ? 4 : 25);
        for (int i = 0; i < most && alike; i++) {
            both("next()", real::next, model::next);
            if (upTo(3) == 0) {
                pull();
            } else if (upTo(6) == 0) {
                askWhatWouldBe();
            } else if (upTo(12) == 0) {
                addTable();
            }
        }
    }

    private void askWhatWouldBe() {
        switch (upTo(6)) {
            case 0:
                both("results()", real::results, model::results);
                break;
            case 1: {
                int item = index(Math.max(1, model.many(2)));
                String all = outcome(model::results);
                int place = index(all.startsWith("throws") ? 2 : Integer.parseInt(all));
                both("result(" + place + ", " + item + ")",
                        () -> real.result(place, item), () -> model.result(place, item));
                break;
            }
            case 2: {
                int what = index(2);
                both("wouldDo(" + what + ")", () -> real.wouldDo(what), () -> model.wouldDo(what));
                break;
            }
            case 3: {
                int i = index(Math.max(1, model.many(4)));
                both("meetingsWithout(" + i + ")",
                        () -> real.meetingsWithout(i), () -> model.meetingsWithout(i));
                break;
            }
            case 4:
                both("share()", real::share, model::share);
                break;
            default:
                both("digest()", real::digest, model::digest);
        }
    }

    private void step() {
        if (model.many(3) == 0 && upTo(4) != 0) {
            write();
            return;
        }
        int kind = upTo(100);
        if (kind < 5) {
            addRow();
        } else if (kind < 8) {
            int t = index(columns.length);
            int place = upTo(3);
            both("drop(" + t + ", " + place + ")",
                    () -> real.drop(t, place), () -> model.drop(t, place));
        } else if (kind < 11) {
            addTable();
        } else if (kind < 14) {
            int t = index(columns.length);
            int c = index(3);
            both("variety(" + t + ", " + c + ")",
                    () -> real.variety(t, c), () -> model.variety(t, c));
        } else if (kind < 16) {
            write();
        } else if (kind < 17) {
            add(anyToken());
        } else if (kind < 22) {
            both("read()", real::read, model::read);
        } else if (kind < 26) {
            both("faultAt()", real::faultAt, model::faultAt);
        } else if (kind < 28) {
            int what = index(5);
            both("many(" + what + ")", () -> real.many(what), () -> model.many(what));
        } else if (kind < 52) {
            askPlan();
        } else if (kind < 72) {
            pull();
        } else if (kind < 78) {
            pullOn();
        } else {
            askWhatWouldBe();
        }
    }

    private boolean run() {
        int first = upTo(4) == 0 ? 5 : upTo(4);
        for (int i = 0; i < first; i++) {
            addTable();
        }
        for (int i = 0; i < first * widest; i++) {
            addRow();
        }
        while (alike && told.size() < CALLS) {
            step();
        }
        return alike;
    }

    public static void main(String[] args) {
        Checks checks = new Checks("ModelTest");
        int runs = args.length > 0 ? Integer.parseInt(args[0]) : RUNS;
        int wrong = 0;
        for (int seed = 0; seed < runs && wrong < 3; seed++) {
            ModelTest test = new ModelTest(seed);
            checks.is("a run as the model: " + seed, test.run(), true);
            if (!test.alike) {
                wrong++;
                System.out.println("  " + String.join("\n  ", test.told));
            }
        }
        checks.end();
    }
}
