import com.sun.management.ThreadMXBean;
import java.lang.management.ManagementFactory;

/** All calls of a run live in one room of some 600,000 objects and 7.3 million fields and elements: a run stays far below. */
public final class RoomTest {
    private static final Checks CHECKS = new Checks();
    private static final ThreadMXBean BEAN = (ThreadMXBean) ManagementFactory.getThreadMXBean();
    private static final int CALLS = 512;
    // An object takes 16 bytes at the least, so a fourth of the room's objects can't be made of fewer bytes than these.
    private static final long RUN_BYTES = 600_000L / 4 * 16;

    /** Calls of every kind, all that a run may have, and most of those that have much to do. */
    private static void everyCall(RightsHouse x, int made) {
        int i = 0;
        for (int calls = made; calls + 26 <= CALLS; calls += 26) {
            x.feed(0x67657430, 0x746F2061, 0x3B707574, 0x20612062, 0x79203020);
            x.lines(i % 6, i % 3 == 0 ? 19 : 20);
            x.line(i, x.fault(), x.where());
            x.meant(i % 16, 15 - i % 16, i % 2 == 0);
            x.grant(i % 6, 65535);
            x.holds(i % 6, x.result(i % 6));
            x.door(x.asked(i % 6));
            x.wrong(x.leaks() - x.misuse(true));
            x.way(i % 16, i % 15);
            x.needed(x.idle(x.lacking(x.helped(i % 6))));
            x.cured(x.cure());
            x.without(i % 6, x.key());
            x.part(x.count(x.trouble()));
            i++;
        }
    }

    private static long madeByARun() {
        long before = BEAN.getCurrentThreadAllocatedBytes();
        RightsHouse x = new RightsHouse();
        everyCall(x, 0);
        return BEAN.getCurrentThreadAllocatedBytes() - before;
    }

    /** The cure that has most to try: ten grants, of which none will do. */
    private static RightsHouse hardToCure() {
        RightsHouse x = Checks.house(1023, "get 0 to a;get 1 to a;get 2 to a;get 3 to a;get 4 to a;put a by 5;put a by 6;put a by 7;"
            + "put a by 8;put a by 9");
        x.meant(0, 5, true);
        x.meant(1, 6, true);
        x.meant(2, 7, true);
        x.meant(3, 8, true);
        x.meant(4, 9, true);
        return x;
    }

    private static long madeByDearCalls(RightsHouse x, int made) {
        long before = BEAN.getCurrentThreadAllocatedBytes();
        for (int calls = made; calls + 4 <= CALLS; calls += 4) {
            x.cure();
            x.key();
            x.way(0, 5);
            x.without(0, 0);
        }
        return BEAN.getCurrentThreadAllocatedBytes() - before;
    }

    public static void main(String[] args) {
        if (!BEAN.isThreadAllocatedMemorySupported()) {
            System.out.println("this Java can't tell what a thread makes");
            return;
        }
        // The first run makes what Java itself needs to begin.
        madeByARun();
        CHECKS.due("calls of every kind stay in the room", madeByARun() <= RUN_BYTES, true);
        RightsHouse x = hardToCure();
        CHECKS.refused("a cure that has most to try", x, x.cure(), 5);
        CHECKS.due("dear calls stay in the room", madeByDearCalls(x, 30) <= RUN_BYTES, true);
        x = Checks.everyLeak();
        CHECKS.due("dear calls with every leak stay in the room", madeByDearCalls(x, 80) <= RUN_BYTES, true);
        CHECKS.end();
    }
}
