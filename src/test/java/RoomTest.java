import com.sun.management.ThreadMXBean;
import java.lang.management.ManagementFactory;

/** What 512 calls make stays small: the rows are made once and used again. */
public final class RoomTest {
    private static final int CALLS = 512;
    /** Some 20,000 fields and elements of 4 bytes; the room of a run has 7.3 million. */
    private static final long MOST_BYTES = 80_000;

    public static void main(String[] args) {
        fill(new CascadeHouse());
        ThreadMXBean threads = (ThreadMXBean) ManagementFactory.getThreadMXBean();
        long before = threads.getCurrentThreadAllocatedBytes();
        fill(new CascadeHouse());
        long made = threads.getCurrentThreadAllocatedBytes() - before;
        Check.due("a run makes few bytes (" + made + ")", made <= MOST_BYTES, true);
        longRun();
        Check.end();
    }

    private static void fill(CascadeHouse x) {
        int calls = 0;
        for (int rule = 0; rule < 16; rule++) {
            x.rule(CascadeHouse.NONE, 0, 0, rule % 2, rule % 3, rule % 5 == 0);
            x.part(rule, CascadeHouse.BELOW, CascadeHouse.NONE, 0, 0);
            calls += 2;
        }
        for (int element = 1; element < 24; element++) {
            x.add(element / 2, 1, 0);
            calls++;
        }
        for (int k = 0; calls < CALLS; k++) {
            switch (k % 6) {
                case 0: x.declare(k % 16, k % 15, 1); break;
                case 1: x.refer(k % 16, k % 7 == 0 ? 14 : 8, k % 4, 1); x.empty(k % 16); calls++; break;
                case 2: x.remove(23 + k / 6); break;
                case 3: x.add(k % 11, 1, 0); break;
                case 4: x.text(k % 11, 12345678); break;
                default: x.valueAnew(0, 0); break;
            }
            calls++;
        }
    }

    /** Behind the 512th call the answers are free, but no call may fail to end or throw by itself. */
    private static void longRun() {
        CascadeHouse x = new CascadeHouse();
        x.rule(0, 0, 0, 1, 0, false);
        for (int k = 0; k < 5000; k++) {
            int made = x.add(0, k % 6, k % 256);
            x.declare(0, k % 15, 1);
            x.empty(0);
            Check.due("remove", x.remove(made), 1);
        }
        Check.due("elements()", x.elements(), 1);
    }
}
