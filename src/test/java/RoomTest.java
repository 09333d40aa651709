import com.sun.management.ThreadMXBean;
import java.lang.management.ManagementFactory;

/** The room that all calls of one run share: it is for constructors, no other call may take of it. */
public final class RoomTest {
    private static final int CALLS = 512;

    /** 7.3 million elements; the dearest of ours are longs, headers and padding count as well. */
    private static final long ROOM = 7300000L * Long.BYTES;

    private static final ThreadMXBean THREADS = (ThreadMXBean) ManagementFactory.getThreadMXBean();

    private final Checks checks = new Checks();

    public static void main(String[] args) {
        RoomTest test = new RoomTest();
        test.calls();
        test.constructors();
        test.checks.end("RoomTest");
    }

    private void calls() {
        RollPlanner x = new RollPlanner();
        everyCall(x);
        long before = taken();
        for (int n = 0; n < CALLS; n++) {
            everyCall(x);
        }
        // Some bytes are the machine's own; one object a turn would be 16 each.
        checks.holds("calls make no objects", taken() - before < 16L * CALLS);
    }

    private void constructors() {
        RollPlanner[] made = new RollPlanner[CALLS];
        long before = taken();
        for (int n = 0; n < CALLS; n++) {
            made[n] = new RollPlanner();
        }
        checks.holds("a run of constructors fits the room", taken() - before < ROOM);
    }

    private static long taken() {
        return THREADS.getThreadAllocatedBytes(Thread.currentThread().getId());
    }

    private static long everyCall(RollPlanner x) {
        long sum = x.begin(60) ? 1 : 0;
        sum += x.kind(13, 6) + x.kind(17, 6) + x.kind(22, 6) + x.kind(29, 5);
        sum += x.ask(3, 6) ? 1 : 0;
        sum += x.of(0) + x.ofKind(0, 0) + x.rolls() + x.cut(8, 3) + x.with(1, 1, 0, 1);
        sum += x.floorTop() + x.floorBottom() + x.price(5, 7, 9, 11) + x.drop();
        return sum;
    }
}
