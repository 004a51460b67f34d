import com.sun.management.ThreadMXBean;
import java.lang.management.ManagementFactory;

/** What 512 calls make stays small: the rows are made once and used again. */
public final class RoomTest {
    private static final int CALLS = 512;
    /** Some 20,000 fields and elements of 4 bytes; the room of a run has 7.3 million. */
    private static final long MOST_BYTES = 80_000;

    public static void main(String[] args) {
        fill(new CascadeHouse());
        ThreadMXBean threads = (ThreadMXBean) ManagementFactory.getThreadMXBean();
        long before = threads.getCurrentThreadAllocatedBytes();
        fill(new CascadeHouse());
        long made = threads.getCurrentThreadAllocatedBytes() - before;
        Check.due("a run makes few bytes (" + made + ")", made <= MOST_BYTES, true);
        longRun();
        Check.end();
    }

    private static void fill(CascadeHouse x) {
        for (int rule = 0; rule < 16; rule++) {
            x.rule(CascadeHouse.NONE, 0, 0, rule % 2, rule % 3, rule % 5 == 0);
            x.part(rule, CascadeHouse.BELOW, CascadeHouse.NONE, 0, 0);
        }
        for (int element = 1; element < 24; element++) {
            x.add(element / 2, 1, 0);
        }
        for (int k = 0; k < CALLS - 2 * 16 - 23; k++) {
            switch (k % 7) {
                case 0: x.declare(k % 16, k % 15, 1); break;
                case 1: x.refer(k % 16, k % 2 == 0 ? 14 : 8, k % 4, 1); break;
                case 2: x.empty((k - 1) % 16); break;
                case 3: x.remove(23 + k / 7); break;
                case 4: x.add(k % 11, 1, 0); break;
                case 5: x.text(k % 11, 12345678); break;
                default: x.valueAnew(0, 0); break;
            }
        }
    }

    /** Behind the 512th call the answers are free, but no call may fail to end or throw anything by itself. */
    private static void longRun() {
        CascadeHouse x = new CascadeHouse();
        for (int k = 0; k < 20_000; k++) {
            int number = k;
            Scene.Call[] calls = {
                y -> y.add(number % 99 == 0 ? number / 4 : 0, number % 6, number % 256), y -> y.rule(0, 0, 0, 1, number % 3, false),
                y -> y.declare(number % 16, number % 15, 1), y -> y.remove(number / 4 - 9), y -> y.empty(number % 16),
            };
            String told = Scene.tell(calls[k % calls.length], x);
            boolean isAnswer = told.equals("true") || told.equals("false") || told.matches("-?[0-9]+");
            boolean isOwn = told.equals(Check.BOUNDS) || told.equals(Check.ARGUMENT) || told.equals(Check.STATE);
            Check.due("call " + k + " answers or refuses: " + told, isAnswer || isOwn, true);
        }
    }
}
