/** Counts what a test finds wrong, and tells it. */
final class Checks {
    private final String name;
    private int made;
    private int wrong;

    Checks(String name) {
        this.name = name;
    }

    void is(String what, long got, long due) {
        made++;
        if (got != due) {
            wrong++;
            System.out.println(name + ": " + what + " answered " + got + ", due is " + due);
        }
    }

    void is(String what, boolean got, boolean due) {
        is(what, got ? 1 : 0, due ? 1 : 0);
    }

    void is(String what, double got, double due) {
        made++;
        if (got != due) {
            wrong++;
            System.out.println(name + ": " + what + " answered " + got + ", due is " + due);
        }
    }

    /** The call throws just that exception, and changes nothing. */
    void refuses(OrchardQuery q, String what, Class<? extends RuntimeException> due, Runnable call) {
        made++;
        long before = q.digest();
        Class<?> got = null;
        try {
            call.run();
        } catch (RuntimeException e) {
            got = e.getClass();
        }
        if (got != due) {
            wrong++;
            System.out.println(name + ": " + what + " threw " + got + ", due is " + due);
        }
        if (q.digest() != before) {
            wrong++;
            System.out.println(name + ": " + what + " threw, and changed something");
        }
    }

    void end() {
        System.out.println(name + ": " + made + " checks, " + wrong + " wrong");
        if (wrong != 0) {
            System.exit(1);
        }
    }
}
