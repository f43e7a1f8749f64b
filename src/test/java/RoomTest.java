import com.sun.management.ThreadMXBean;
import java.lang.management.ManagementFactory;

/** The room that all calls of one run share: an object and its 512 dearest calls stay far below it. */
public final class RoomTest {
    private static final int CALLS = 512;
    /** 600,000 objects are 9.6 million bytes at least; the calls should make none, so a part of that is plenty. */
    private static final long MOST_BYTES = 500_000;

    public static void main(String[] args) {
        Check check = new Check();
        ThreadMXBean counter = (ThreadMXBean) ManagementFactory.getThreadMXBean();
        long thread = Thread.currentThread().getId();
        useFully();
        long before = counter.getThreadAllocatedBytes(thread);
        useFully();
        long made = counter.getThreadAllocatedBytes(thread) - before;
        check.due("an object and its calls make more than " + MOST_BYTES + " bytes (" + made + ")", made > MOST_BYTES, false);
        check.end();
    }

    private static void useFully() {
        LimbWorks x = new LimbWorks();
        for (int k = 1; k <= 7; k++) {
            x.body(k - 1, k % 3 == 0);
            x.mass(k, k);
            x.inertia(k, k, k + 1, k + 2);
        }
        for (int call = 21; call + 8 <= CALLS; call += 8) {
            x.forward();
            x.step(call);
            x.energy();
            x.weight(call % 4);
            x.where(7, call % 9);
            x.needs(call % 8);
            x.matrix(1 + call % 7, 7);
            x.bias(call % 8);
        }
    }
}
