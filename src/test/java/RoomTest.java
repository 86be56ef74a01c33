import com.sun.management.ThreadMXBean;
import java.lang.management.ManagementFactory;

/** A run's objects all live in one room, so no call but the constructor may make any. */
public final class RoomTest {
    private static final Due DUE = new Due("RoomTest");
    private static final int CALLS = 512;
    // what the machine itself may make in the background of the first calls, far below a row a call
    private static final long ALLOWED_BYTES = 16L * CALLS;

    private static long answers = 0;

    public static void main(String[] args) {
        ThreadMXBean bean = (ThreadMXBean) ManagementFactory.getThreadMXBean();
        TrafficMatrix x = full();
        callAll(x);
        for (int kind = 0; kind < 12; kind++) {
            long before = bean.getThreadAllocatedBytes(Thread.currentThread().getId());
            for (int call = 0; call < CALLS; call++) {
                call(x, kind);
            }
            long made = bean.getThreadAllocatedBytes(Thread.currentThread().getId()) - before;
            DUE.is("kind " + kind + " made " + made + " bytes: too many", made > ALLOWED_BYTES ? 1 : 0, 0);
        }
        DUE.is("the calls were answered", answers != 0 ? 1 : 0, 1);
        DUE.end();
    }

    private static TrafficMatrix full() {
        TrafficMatrix x = new TrafficMatrix();
        x.reset(5);
        for (int link = 0; link < 12; link++) {
            x.addLink(link % 5, (link + 1 + link / 5) % 5, 1 + link);
        }
        for (int s = 0; s < 5; s++) {
            for (int t = 0; t < 5; t++) {
                x.setDemand(s, t, 1000 * s + t);
            }
        }
        x.measure();
        x.applyGravity();
        return x;
    }

    private static void callAll(TrafficMatrix x) {
        for (int kind = 0; kind < 12; kind++) {
            call(x, kind);
        }
    }

    private static void call(TrafficMatrix x, int kind) {
        switch (kind) {
            case 0 -> answers += x.bestPair();
            case 1 -> answers += x.identifiableCount();
            case 2 -> answers += x.identifiedNumerator(0, 3);
            case 3 -> answers += x.identifiedDenominator(0, 3);
            case 4 -> answers += x.fitTotals(50);
            case 5 -> answers += x.fitLinks(50);
            case 6 -> answers += x.setMetric(3, 7);
            case 7 -> answers += x.measure();
            case 8 -> answers += x.applyGravity();
            case 9 -> answers += x.totalError();
            case 10 -> answers += x.rank() + x.isConsistent() + x.isIdentifiable(0, 3);
            default -> {
                answers += x.reset(5);
                answers += x.addLink(0, 1, 1);
            }
        }
    }
}
