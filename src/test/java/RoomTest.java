import com.sun.management.ThreadMXBean;
import java.lang.management.ManagementFactory;

/** A run's objects live in one room: what 512 dear calls make stays small, and a new object too. */
public final class RoomTest {
    private static final Due DUE = new Due("RoomTest");
    private static final ThreadMXBean THREADS = (ThreadMXBean) ManagementFactory.getThreadMXBean();

    public static void main(String[] args) {
        fill(new BoughtAhead()); // loads the classes, whose room is not the run's
        long before = made();
        BoughtAhead x = new BoughtAhead();
        long anew = made() - before;
        DUE.yes("a new object makes " + anew + " bytes", anew < 20000);
        fill(x);
        before = made();
        for (int call = 0; call < 400; call++) {
            dearCall(x, call);
        }
        long more = made() - before;
        DUE.yes("400 dear calls make " + more + " bytes", more < 40000);
        DUE.end();
    }

    private static long made() {
        return THREADS.getCurrentThreadAllocatedBytes();
    }

    private static void fill(BoughtAhead x) {
        x.hours(40);
        x.kind(1000);
        for (int i = 0; i < 6; i++) {
            x.offer(0, 3 + 5 * i, 2000 + 3000 * i);
        }
        for (int owner = 0; owner < 4; owner++) {
            for (int from = 0; from < 40; from += 8) {
                x.needs(owner, 0, from, 0x19283746);
            }
        }
    }

    private static void dearCall(BoughtAhead x, int call) {
        switch (call % 8) {
            case 0 -> x.best(0);
            case 1 -> x.price(0, call % 40);
            case 2 -> x.more(0, call % 40, 60);
            case 3 -> x.more(0, call % 40, -60);
            case 4 -> x.blind(call % 6);
            case 5 -> x.pays(call % 4, 0);
            case 6 -> x.image(call % 3);
            default -> x.again(call % 3);
        }
    }
}
