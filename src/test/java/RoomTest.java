import com.sun.management.ThreadMXBean;
import java.lang.management.ManagementFactory;

/** The dearest calls make no objects: all rows come from the constructor. */
public final class RoomTest {
    private static final int CALLS = 440;

    public static void main(String[] args) {
        ThreadMXBean threads = (ThreadMXBean) ManagementFactory.getThreadMXBean();
        // The first round has the machine load what it needs; only the second one counts.
        measure(threads);
        long[] bytes = measure(threads);
        System.out.println("an object: " + bytes[0] + " bytes; " + CALLS + " calls: " + bytes[1] + " bytes");
        // Some 8,000 numbers of 8 bytes each.
        Checks.holds("an object is small", bytes[0] < 100_000);
        Checks.holds("calls make nothing", bytes[1] < 2_000);
        Checks.end();
    }

    private static long[] measure(ThreadMXBean threads) {
        long start = threads.getCurrentThreadAllocatedBytes();
        ReachFlows flows = new ReachFlows();
        long made = threads.getCurrentThreadAllocatedBytes();
        flows.times(24);
        flows.reach(ReachFlows.NONE, 3, 2, 4);
        flows.reach(0, 3, 2, 4);
        flows.keep(0);
        long sum = 0;
        for (int i = 0; i < CALLS / 11; i++) {
            sum += flows.reachAt(0, 9) + flows.reachAt(0, 10) + flows.sum(0, 7) + flows.would(0, 1, 5, 5);
            sum += flows.drift(20) + flows.show(0) + flows.undo(3) + flows.told(7);
            sum += flows.feed('t') + flows.river() + flows.goBack(0);
        }
        long end = threads.getCurrentThreadAllocatedBytes();
        Checks.holds("something was answered", sum != 0);
        return new long[] {made - start, end - made};
    }
}
