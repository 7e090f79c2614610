import com.sun.management.ThreadMXBean;
import java.lang.management.ManagementFactory;

/** All calls of a run live in one room: a house is made once, and no call of it makes anything. */
public final class RoomTest {
    private static final Checks CHECKS = new Checks();
    private static final ThreadMXBean BEAN = (ThreadMXBean) ManagementFactory.getThreadMXBean();
    private static final int HOUSE_BYTES = 64 * 1024;
    private static final int CALLS_BYTES = 1024;

    private static int everyCall(RightsHouse x) {
        int sum = 0;
        for (int i = 0; i < 16; i++) {
            x.feed(0x67657430, 0x746F2061, 0x3B707574, 0x20612062, 0x79203020);
            sum += x.lines(i % 6, 20) + x.fault() + x.where() + x.line(i, 0, 1);
            x.meant(i, 15 - i, i % 2 == 0);
            x.grant(i % 6, 1 << i);
            sum += x.holds(i, 0) + x.result(i) + x.asked(i) + x.door(i) + x.leaks() + x.misuse(true) + x.wrong(i);
            sum += x.way(i, i) + x.needed(i) + x.idle(i) + x.lacking(i) + x.helped(i) + x.cure() + x.cured(i);
            sum += x.without(i, i) + x.key() + x.count(i) + x.trouble() + x.part(i) + x.trim();
        }
        return sum;
    }

    private static long madeByCalls(RightsHouse x) {
        long before = BEAN.getCurrentThreadAllocatedBytes();
        everyCall(x);
        return BEAN.getCurrentThreadAllocatedBytes() - before;
    }

    private static long madeByAHouse() {
        long before = BEAN.getCurrentThreadAllocatedBytes();
        RightsHouse x = new RightsHouse();
        return x.count(0) + BEAN.getCurrentThreadAllocatedBytes() - before;
    }

    public static void main(String[] args) {
        if (!BEAN.isThreadAllocatedMemorySupported()) {
            System.out.println("this Java can't tell what a thread makes");
            return;
        }
        // The first run makes what Java itself needs to begin.
        madeByCalls(Checks.everyLeak());
        madeByAHouse();
        CHECKS.due("a house is small", madeByAHouse() <= HOUSE_BYTES, true);
        CHECKS.due("calls make nothing", madeByCalls(Checks.everyLeak()) <= CALLS_BYTES, true);
        CHECKS.end();
    }
}
