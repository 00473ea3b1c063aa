import com.sun.management.ThreadMXBean;
import java.lang.management.ManagementFactory;

/** All calls live in one room: a new object is small, and the dearest calls make nothing. */
public final class RoomTest {
    private static final ThreadMXBean THREADS = (ThreadMXBean) ManagementFactory.getThreadMXBean();

    public static void main(String[] args) {
        StuckSearch first = new StuckSearch();
        use(first, 1);
        long begin = made();
        StuckSearch x = new StuckSearch();
        long object = made() - begin;
        Kit.due("a new object has less than 64 KiB", true, () -> object < 64 * 1024);
        begin = made();
        use(x, 9);
        long calls = made() - begin;
        Kit.due("some 500 dear calls make less than 64 KiB", true, () -> calls < 64 * 1024);
        Kit.finish();
    }

    private static long made() {
        return THREADS.getThreadAllocatedBytes(Thread.currentThread().getId());
    }

    /** Some 55 calls a round, each round with a new world of 28561 states. */
    private static void use(StuckSearch x, int rounds) {
        for (int round = 0; round < rounds; round++) {
            x.clear();
            x.wipe();
            x.feed(8, 0x2e2e2e2e2e2e2e2eL);
            x.feed(4, 0x2e2e2e2eL);
            for (int p = 0; p < 4; p++) {
                x.process();
            }
            for (int i = 0; i < 6; i++) {
                x.stuck();
                x.ended();
                x.place(0, 3);
                x.told(0, 1);
                x.moves();
                x.move(0);
                x.falls();
                x.product();
            }
        }
    }
}
