import java.lang.management.ManagementFactory;

/** That a run of calls makes next to nothing: all calls of one run live in one room. */
final class RoomTests {
    private static final long MOST_BYTES = 200_000;

    private RoomTests() {
    }

    static void run(Check check) {
        check.subject("room");
        if (!(ManagementFactory.getThreadMXBean() instanceof com.sun.management.ThreadMXBean)) {
            return;
        }
        com.sun.management.ThreadMXBean threads =
            (com.sun.management.ThreadMXBean) ManagementFactory.getThreadMXBean();
        WaveletStream w = new WaveletStream();
        w.picture(8, 8);
        calls(w);
        long before = threads.getThreadAllocatedBytes(Thread.currentThread().getId());
        calls(w);
        long made = threads.getThreadAllocatedBytes(Thread.currentThread().getId()) - before;
        check.that("a run of calls made " + made + " bytes", made <= MOST_BYTES);
    }

    private static void calls(WaveletStream w) {
        for (int k = 0; k < 128; k++) {
            w.paint(k % 8, k / 8 % 8, k * 37 & 255);
            int size = w.encode(k % 4, 1 + k % 3);
            w.decode(size);
            w.difference();
        }
    }
}
