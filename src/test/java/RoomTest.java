import com.sun.management.ThreadMXBean;
import java.lang.management.ManagementFactory;

/**
 * All calls of a run live in one room: 600,000 objects and arrays with 7.3 million fields and
 * elements. Here a run is an object's 512 calls, of the dearest kinds.
 */
public final class RoomTest {
    private static final int CALLS = 512;
    private static final long BYTES_OF_AN_OBJECT = 16;
    /** As many as a long takes: no class that keeps to the room may fail here. */
    private static final long BYTES_OF_AN_ELEMENT = 8;
    private static final long MOST_BYTES =
            600_000 * BYTES_OF_AN_OBJECT + 7_300_000 * BYTES_OF_AN_ELEMENT;
    private static final Checks CHECKS = new Checks("RoomTest");

    private static long made() {
        ThreadMXBean threads = (ThreadMXBean) ManagementFactory.getThreadMXBean();
        return threads.getThreadAllocatedBytes(Thread.currentThread().getId());
    }

    private static OrchardQuery full() {
        OrchardQuery q = new OrchardQuery();
        for (int t = 0; t < 3; t++) {
            q.table(3);
            for (int r = 0; r < 14; r++) {
                q.row(t, r, r % 3, 7);
            }
        }
        return q;
    }

    /** Each call of a turn has to find all RESULTS anew, or walks through all MEETINGS. */
    private static void run(OrchardQuery q, int... tokens) {
        int made = 3 + 3 * 14 + 2 + tokens.length;
        Make.read(q, tokens);
        for (int i = 0; made + 8 <= CALLS; i++) {
            q.swap(i % 3, 1);
            q.digest();
            q.best();
            q.rewrite(i % 4);
            q.open();
            q.next();
            q.value(0);
            q.share();
            made += 8;
        }
    }

    public static void main(String[] args) {
        int[][] queries = {
            {0, 100, 110, 120, 121, 1, 20, 21, 22, 5, 1002},
            {0, 100, 7, 8, 120, 121, 1, 20, 21, 22, 2, 102, 9, 1007, 3, 101, 9, 111, 4, 111, 5, 1001},
            {0, 100, 1, 20, 21, 22, 2, 102, 9, 112, 3, 102, 9, 1007, 3, 112, 9, 122, 6, 1999},
        };
        run(full(), queries[0]);
        for (int[] query : queries) {
            long before = made();
            run(full(), query);
            long bytes = made() - before;
            CHECKS.is("a run takes less than " + MOST_BYTES + " bytes: " + bytes, bytes < MOST_BYTES, true);
        }
        CHECKS.end();
    }
}
