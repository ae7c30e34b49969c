import com.sun.management.ThreadMXBean;
import java.lang.management.ManagementFactory;

/** All calls of a run live in one room, so calls make no objects: only a new stripe does, and a small one. */
public final class RoomTest {
    private static final Checks CHECKS = new Checks();
    private static final ThreadMXBean THREADS = (ThreadMXBean) ManagementFactory.getThreadMXBean();

    public static void main(String[] args) {
        SwipedStripe x = new SwipedStripe();
        int sum = useAll(x) + useAll(x);
        long before = bytes();
        for (int n = 0; n < 20; n++) {
            sum += useAll(x);
        }
        long used = bytes() - before;
        CHECKS.holds("calls make no objects, but " + used + " bytes", used < 4000);
        before = bytes();
        x = new SwipedStripe();
        used = bytes() - before;
        CHECKS.holds("a new stripe is small, but " + used + " bytes", used < 20000);
        CHECKS.holds("the same calls answer the same", sum != 0 && useAll(x) == useAll(new SwipedStripe()));
        CHECKS.finish();
    }

    private static long bytes() {
        return THREADS.getThreadAllocatedBytes(Thread.currentThread().getId());
    }

    private static int useAll(SwipedStripe x) {
        x.end(0);
        x.feed(0x6c6561642031373bL);
        int sum = x.text() + x.fault() + x.clear();
        for (int n = 0; n < 17; n++) {
            sum += x.add(n) + x.value(n) + x.rule(n) + x.stripe(n) + x.bit(n);
        }
        sum += x.write(100, 1, 3, 5) + x.gap(3) + x.alter(4, 99) + x.miss(3) + x.split(4, 8) + x.turn() + x.turn();
        for (int n = -1; n < 6; n++) {
            sum += x.read(1, n) + x.heard(n) + x.found(n) + x.symbol(n) + x.mended(n) + x.smooth(n) + x.smoothBit(n);
            sum += x.margin(2, n) + x.joined(n) + x.join(n) + x.count(n) + x.sheet(1, 2, 8 * n) + x.lay(1, n, 50);
        }
        sum += x.way() + x.sway() + x.keep() + x.load(1, 2, 0, 64) + x.torn() + x.joined(3) + x.join(0) + x.drop();
        return sum + x.wipe();
    }
}
