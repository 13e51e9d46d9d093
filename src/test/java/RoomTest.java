import com.sun.management.ThreadMXBean;
import java.lang.management.ManagementFactory;

/** Tests that the calls live in the room that the constructor makes. */
public final class RoomTest {
    private static final int CALLS = 512;
    // All calls of one run may make some 7.3 million elements; these bounds are far below.
    private static final long OBJECT_BYTES = 32_768;
    private static final long CALL_BYTES = 32_768;

    private RoomTest() {
    }

    public static void main(String[] args) {
        long object = 0;
        long calls = 0;
        // The first rounds load classes; the last one is measured.
        for (int round = 0; round < 3; round++) {
            long start = allocated();
            BrambleShift x = new BrambleShift();
            long made = allocated();
            useDearly(x);
            object = made - start;
            calls = allocated() - made;
        }
        boolean right = object <= OBJECT_BYTES && calls <= CALL_BYTES;
        System.out.println("bytes of a new object: " + object + ", of " + CALLS + " calls: " + calls);
        System.exit(right ? 0 : 1);
    }

    private static void useDearly(BrambleShift x) {
        x.addWalker(0, 0);
        x.addWalker(4, 4);
        x.addWalker(2, 2);
        for (int count = 3; count + 15 <= CALLS; count += 15) {
            x.append('p');
            x.append('i');
            x.append('n');
            x.append(' ');
            x.append('2');
            x.append('2');
            x.run();
            x.undo();
            x.helpfulShifts(0, 4, 4);
            x.isConsistent();
            x.walk(1, count % 2, 0);
            x.writeRow(2);
            x.save();
            x.restore();
            x.shiftRow(3, 1);
        }
    }

    private static long allocated() {
        ThreadMXBean threads = (ThreadMXBean) ManagementFactory.getThreadMXBean();
        return threads.getThreadAllocatedBytes(Thread.currentThread().getId());
    }
}
