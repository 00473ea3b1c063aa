import com.sun.management.ThreadMXBean;
import java.lang.management.ManagementFactory;

/**
 * All calls of a run live in one room of some 600,000 objects and arrays with 7.3 million fields and
 * elements. Each of these has a byte at least, and each object has 16, so that whatever makes less
 * than 7.3 million bytes has place there.
 */
public final class RoomTest {
    private static final long ROOM = 7_300_000L;
    private static final ThreadMXBean THREADS = (ThreadMXBean) ManagementFactory.getThreadMXBean();

    public static void main(String[] args) {
        StuckSearch first = new StuckSearch();
        use(first, 1);
        long begin = made();
        StuckSearch x = new StuckSearch();
        use(x, 9);
        long used = made() - begin;
        Kit.says("one room");
        Kit.due("an object and some 500 of the dearest calls have place", true, () -> used < ROOM);
        begin = made();
        StuckSearch y = new StuckSearch();
        refuse(y);
        long refused = made() - begin;
        Kit.due("an object and some 500 refused calls have place", true, () -> refused < ROOM);
        Kit.finish();
    }

    private static long made() {
        return THREADS.getThreadAllocatedBytes(Thread.currentThread().getId());
    }

    /** Some 55 calls a round, each round with a new world of 28561 states. */
    private static void use(StuckSearch x, int rounds) {
        for (int round = 0; round < rounds; round++) {
            x.clear();
            x.wipe();
            x.feed(8, 0x2e2e2e2e2e2e2e2eL);
            x.feed(4, 0x2e2e2e2eL);
            for (int p = 0; p < 4; p++) {
                x.process();
            }
            for (int i = 0; i < 6; i++) {
                x.stuck();
                x.ended();
                x.place(0, 3);
                x.told(0, 1);
                x.moves();
                x.move(0);
                x.falls();
                x.product();
            }
        }
    }

    private static void refuse(StuckSearch x) {
        for (int i = 0; i < 250; i++) {
            Kit.answer(() -> x.move(0));
            Kit.answer(() -> x.feed(0, 0L));
        }
    }
}
