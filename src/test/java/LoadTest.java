import java.lang.management.ManagementFactory;

/** A run that searches as hard as can be found ends, answers right, and makes next to nothing on its way. */
public final class LoadTest {
    private static final int[] HEIGHTS = {160, 162, 162, 177, 197, 160, 168, 183, 166, 177, 173, 167};
    /** How many bearers are needed, and the span, case by case. */
    private static final int[][] WANTS = {{2, 6}, {2, 22}, {3, 0}, {2, 33}, {4, 11}, {3, 5}, {1, 8}, {3, 45}, {2, 11},
        {0, 39}, {2, 25}, {2, 3}, {1, 20}, {3, 24}, {4, 35}, {3, 1}};
    private static final long MOST_BYTES_OF_A_RUN = 200000;

    private static final Due due = new Due();

    public static void main(String[] args) {
        // The first run loads classes, which is counted too.
        wholeRun();
        long before = allocated();
        wholeRun();
        long made = allocated() - before;
        due.is("a run that makes " + made + " bytes", made <= MOST_BYTES_OF_A_RUN ? 1 : 0, 1);
        due.end("LoadTest");
    }

    private static long allocated() {
        com.sun.management.ThreadMXBean bean = (com.sun.management.ThreadMXBean) ManagementFactory.getThreadMXBean();
        return bean.getThreadAllocatedBytes(Thread.currentThread().getId());
    }

    /** 512 calls: twelve bearers, sixteen cases in hours that are as full as they get, and then questions. */
    private static void wholeRun() {
        HourPromised x = new HourPromised();
        x.house(0, 4);
        x.house(2, 8);
        int calls = 2;
        for (int height : HEIGHTS) {
            x.bearer(height);
            calls++;
        }
        for (int[] want : WANTS) {
            x.casus(0, 0, want[0], want[1]);
            calls++;
        }
        for (int c = 0; c < 15; c++) {
            for (int step = 1; step < 4; step += 2) {
                int hour = x.earliest(c, step, 1);
                x.promise(c, step, hour);
                calls += 2;
            }
        }
        int last = 0;
        for (; calls < 512; calls++) {
            last = x.earliest(15, 3, 1);
        }
        due.is("three bearers whose heights differ by one at most: there are not", last, HourPromised.NONE);
    }
}
