import com.sun.management.ThreadMXBean;
import java.lang.management.ManagementFactory;

/** All calls of a run live in one room: what a new object and its dearest calls make is little. */
public final class RoomTest {
    private static final ThreadMXBean THREADS = (ThreadMXBean) ManagementFactory.getThreadMXBean();

    public static void main(String[] args) {
        dearCalls(new DataTree(), 2);
        long before = made();
        DataTree x = new DataTree();
        long object = made() - before;
        Check.yes("a new object makes " + object + " bytes", object < 150_000);
        before = made();
        dearCalls(x, 40);
        long calls = made() - before;
        Check.yes("480 calls make " + calls + " bytes", calls < 40_000);
        Check.end();
    }

    private static long made() {
        return THREADS.getThreadAllocatedBytes(Thread.currentThread().getId());
    }

    /** Twelve calls each time: a list of 200 nodes is read, put together, written and compared. */
    private static void dearCalls(DataTree x, int times) {
        x.give(0x98c7L, 2);
        for (int n = 0; n < 25; n++) {
            x.give(0, 8);
        }
        for (int n = 0; n < times; n++) {
            x.cut(201);
            x.read();
            x.copy(0);
            x.compare(0, 1);
            x.list(0);
            x.constructor(3, 1);
            x.open();
            x.drop();
            x.write();
            x.drop();
            x.node(0, 199, 5);
            x.drop();
        }
    }
}
