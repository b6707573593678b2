/** Counts what a test finds wrong, and tells it. */
final class Checks {
    private static final long MOST_MILLIS = 300_000;
    private static final int MOST_TOLD = 40;
    private final String name;
    private String heading = "";
    private String about = "";
    private int sentences;
    private int made;
    private int wrong;

    Checks(String name) {
        this.name = name;
        watch();
    }

    /** A call that does not end must fail the test, not hold it up. */
    private void watch() {
        Thread guard = new Thread(() -> {
            try {
                Thread.sleep(MOST_MILLIS);
            } catch (InterruptedException e) {
                return;
            }
            System.out.println(name + about + ": there was no end");
            Runtime.getRuntime().halt(1);
        });
        guard.setDaemon(true);
        guard.start();
    }

    /** The headings of the document under each of which the sentences stand that are tested then. */
    void under(String... headings) {
        heading = String.join(", ", headings);
    }

    /**
     * One sentence of the document, or a piece of it, in its own words, and what would fail if it were
     * broken. DocumentTest looks at these words, and whether any of the document's are left over.
     */
    void sentence(String words, Runnable test) {
        sentences++;
        about = " [" + heading + ": " + words + "]";
        int before = made;
        try {
            test.run();
        } catch (RuntimeException e) {
            tell("threw " + e + " at " + e.getStackTrace()[0]);
        }
        if (made == before) {
            tell("nothing was checked");
        }
        about = "";
    }

    private void tell(String what) {
        wrong++;
        if (wrong <= MOST_TOLD) {
            System.out.println(name + about + ": " + what);
        }
    }

    void is(String what, long got, long due) {
        made++;
        if (got != due) {
            tell(what + " answered " + got + ", due is " + due);
        }
    }

    void is(String what, boolean got, boolean due) {
        is(what, got ? 1 : 0, due ? 1 : 0);
    }

    void is(String what, double got, double due) {
        made++;
        if (got != due) {
            tell(what + " answered " + got + ", due is " + due);
        }
    }

    void is(String what, String got, String due) {
        made++;
        if (!got.equals(due)) {
            tell(what + " answered " + got + ", due is " + due);
        }
    }

    /** The call throws just that exception, and changes nothing. */
    void refuses(OrchardQuery q, String what, Class<? extends RuntimeException> due, Runnable call) {
        made++;
        long before = q.digest();
        Class<?> got = null;
        try {
            call.run();
        } catch (RuntimeException e) {
            got = e.getClass();
        }
        if (got != due) {
            tell(what + " threw " + got + ", due is " + due);
        }
        if (q.digest() != before) {
            tell(what + " threw, and changed something");
        }
    }

    void noIndex(OrchardQuery q, String what, Runnable call) {
        refuses(q, what, IndexOutOfBoundsException.class, call);
    }

    void badArgument(OrchardQuery q, String what, Runnable call) {
        refuses(q, what, IllegalArgumentException.class, call);
    }

    void badState(OrchardQuery q, String what, Runnable call) {
        refuses(q, what, IllegalStateException.class, call);
    }

    void end() {
        String all = sentences == 0 ? "" : sentences + " sentences, ";
        System.out.println(name + ": " + all + made + " checks, " + wrong + " wrong");
        if (wrong != 0) {
            System.exit(1);
        }
    }
}
