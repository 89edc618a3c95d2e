import com.sun.management.ThreadMXBean;
import java.lang.management.ManagementFactory;

/**
 * All calls of one run live in one room of some 600,000 objects and arrays, with 7.3 million fields
 * and elements: an object and as many calls as it is used for, the dearest among them, take less.
 */
public final class RoomTest {
    private static final long MOST_BYTES = 16L * 600000 + 8L * 7300000;
    private static final ThreadMXBean THREADS = (ThreadMXBean) ManagementFactory.getThreadMXBean();

    private RoomTest() {
    }

    private static void build(HostPacker x) {
        for (int i = 0; i < 10; i++) {
            x.host(30, 30, 30, i % 5, 0);
        }
        for (int i = 0; i < 24; i++) {
            x.job(i % 6, 1 + i % 7, 1, 1, i % 10, i % 8, 0, (i + 1) % 8);
            x.place(i);
        }
        for (int i = 0; i < 8; i++) {
            x.gang(i);
        }
    }

    private static void callMuch(HostPacker x) {
        for (int i = 0; i < 20; i++) {
            x.target(i, i % 10);
            x.plan();
            x.step(0, 0);
            x.target(i, -1);
            x.safe();
            x.worst();
            x.fewest();
            x.would(i, 0);
            x.move(i, i % 10);
            x.fall(i % 10);
            x.place(i);
            x.gone();
            x.gang(i % 8);
            x.rise(i % 10);
            x.weight(i % 3, i);
            x.why(i, 0);
            x.points(i, 0);
            x.undo();
        }
    }

    public static void main(String[] args) {
        callMuch(new HostPacker());
        long before = THREADS.getCurrentThreadAllocatedBytes();
        HostPacker x = new HostPacker();
        long made = THREADS.getCurrentThreadAllocatedBytes();
        build(x);
        callMuch(x);
        long called = THREADS.getCurrentThreadAllocatedBytes();
        System.out.println("an object takes " + (made - before) + " bytes, its calls " + (called - made));
        Check.due("bytes below the room's", called - before <= MOST_BYTES);
        Check.close();
    }
}
