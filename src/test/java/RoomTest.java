import com.sun.management.ThreadMXBean;
import java.lang.management.ManagementFactory;

/**
 * All calls of a run live in one room, so calls make next to nothing anew: rows are made in the
 * constructor. An element is four bytes at least, so bytes tell more than is asked.
 */
public final class RoomTest {
    private static final long MOST_BYTES = 200_000;
    private static final Checks CHECKS = new Checks("RoomTest");

    private static long made() {
        ThreadMXBean threads = (ThreadMXBean) ManagementFactory.getThreadMXBean();
        return threads.getThreadAllocatedBytes(Thread.currentThread().getId());
    }

    private static OrchardQuery full() {
        OrchardQuery q = new OrchardQuery();
        for (int t = 0; t < 3; t++) {
            q.table(3);
            for (int r = 0; r < 14; r++) {
                q.row(t, r, r % 3, 7);
            }
        }
        return q;
    }

    /** The dearest run: each call has to find all RESULTS anew. */
    private static void run(OrchardQuery q, int... tokens) {
        Make.read(q, tokens);
        for (int i = 0; i < 170; i++) {
            q.swap(i % 3, 1);
            q.digest();
            q.best();
            q.rewrite(i % 4);
            q.open();
            q.next();
            q.value(0);
            q.share();
        }
    }

    public static void main(String[] args) {
        int[][] queries = {
            {0, 100, 110, 120, 121, 1, 20, 21, 22, 5, 1002},
            {0, 100, 7, 8, 120, 121, 1, 20, 21, 22, 2, 102, 9, 1007, 3, 101, 9, 111, 4, 111, 5, 1001},
            {0, 100, 1, 20, 21, 22, 2, 102, 9, 112, 3, 102, 9, 1007, 3, 112, 9, 122, 6, 1999},
        };
        run(full(), queries[0]);
        for (int[] query : queries) {
            long start = made();
            OrchardQuery q = full();
            long before = made();
            run(q, query);
            long after = made();
            CHECKS.is("an object takes less than " + MOST_BYTES + ": " + (before - start),
                    before - start < MOST_BYTES, true);
            CHECKS.is("its calls take less than that: " + (after - before),
                    after - before < MOST_BYTES, true);
        }
        CHECKS.end();
    }
}
