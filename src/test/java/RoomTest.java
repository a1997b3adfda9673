import com.sun.management.ThreadMXBean;
import java.lang.management.ManagementFactory;

/** All calls of a run live in one room: the dearest calls make nothing, and a full object stays small. */
public final class RoomTest {
    private static final ThreadMXBean BEAN = (ThreadMXBean) ManagementFactory.getThreadMXBean();
    private static long sink = 0;

    public static void main(String[] args) {
        LuggageCounter warm = new LuggageCounter();
        fill(warm);
        askDearly(warm);
        long start = made();
        LuggageCounter x = new LuggageCounter();
        fill(x);
        long filled = made() - start;
        Due.is("a full object stays under 64 KiB, it took " + filled, filled < 65536, true);
        start = made();
        askDearly(x);
        long asked = made() - start;
        Due.is("the dearest calls make nothing, they took " + asked, asked < 4096, true);
        System.out.println("full object: " + filled + " bytes, dearest calls: " + asked + " bytes, sum " + sink);
        Due.end();
    }

    private static long made() {
        return BEAN.getThreadAllocatedBytes(Thread.currentThread().getId());
    }

    private static void fill(LuggageCounter x) {
        for (int day = 0; day < 12; day++) {
            x.prices(day, 10, 10, 10, 10);
        }
        for (int i = 0; i < 16; i++) {
            x.shelf(60, 2, false, 1 + 6 * i);
        }
        for (int i = 0; i < 120; i++) {
            x.put(1 + i % 8, i % 3, false, false, i * 546, i * 60);
        }
        for (int i = 0; i < 40; i++) {
            x.claim();
        }
    }

    private static void askDearly(LuggageCounter x) {
        x.hours(0, 1);
        for (int i = 0; i < 60; i++) {
            x.clock(600);
            sink += x.tidy(50) + x.least() + x.misfit() + x.fee(11) + x.ask(i % 40) + x.settle(i % 40)
                    + x.means(i % 40) + x.mark(i % 40, i % 4, i % 16) + x.count(9) + x.thing(i, 10);
        }
    }
}
