import java.lang.management.ManagementFactory;

/**
 * Calls with numbers from everywhere, far more of them than the document has: none may throw (a throw ends the
 * test with an error), and as all rows are made in the constructor, none may make objects.
 */
public final class RoomTest {
    private static final int[] NUMBERS = {
        0, 1, 2, 3, 4, 5, 6, 7, 8, 9, 10, 15, 16, 20, 23, 24, 25, 30, 40, 41, 50, 60, 61, 80, 100, 200, 201, 255, 500,
        1000, 2000, 3000, 5000, 50000, 99999, 100000, 3000000, 9000000, -1, -2, -100, 1 << 30, Integer.MAX_VALUE,
        Integer.MIN_VALUE, Integer.MAX_VALUE - 1, Integer.MIN_VALUE + 1
    };
    private static final String TEXTS = "yljtfd0123456789:;x=&+";
    private static final int CALLS = 200000;
    private static final long MOST_BYTES = 20000;

    private static long state = 1;

    public static void main(String[] args) {
        RopeWalk x = new RopeWalk();
        com.sun.management.ThreadMXBean bean = (com.sun.management.ThreadMXBean) ManagementFactory.getThreadMXBean();
        long me = Thread.currentThread().getId();
        long before = bean.getThreadAllocatedBytes(me);
        for (int i = 0; i < CALLS; i++) {
            call(x, below(32));
        }
        long bytes = bean.getThreadAllocatedBytes(me) - before;
        Due.holds(CALLS + " calls made objects of " + bytes + " bytes", bytes < MOST_BYTES);
        Due.holds("there was some work", x.account(0, 0) != 0);
        Due.finish("RoomTest");
    }

    private static int below(int bound) {
        state = state * 6364136223846793005L + 1442695040888963407L;
        return (int) ((state >>> 33) % bound);
    }

    private static int any() {
        return NUMBERS[below(below(3) == 0 ? NUMBERS.length : 8)];
    }

    private static int call(RopeWalk x, int which) {
        switch (which) {
            case 0: return x.set(any(), any());
            case 1: return x.fibre(any(), any(), any());
            case 2: return x.spin(any(), any());
            case 3: return x.lay(any(), any(), any(), any());
            case 4: return x.lay(below(3), 3, 1, 1 + below(99));
            case 5: return x.join(any(), any());
            case 6: return x.test(any());
            case 7: return x.order(any(), any(), any(), any(), any(), any());
            case 8: return x.order(below(3), 1 + below(99), 1 + below(50), 1 + below(20), below(40), below(9));
            case 9: return x.fill(any());
            case 10: return x.drop(any());
            case 11: return x.pass(any());
            case 12: return x.piece(any(), any());
            case 13: return x.ofOrder(any(), any());
            case 14: return x.count(any());
            case 15: return x.account(any(), any());
            case 16: return x.takes(any(), any(), any(), any(), any());
            case 17: return x.longest(any(), any(), any());
            case 18: return x.leastYarns(any(), any(), any());
            case 19: return x.wouldFill(any(), any());
            case 20: return x.bestSet(any());
            case 21: return x.fewestJoined(any(), any());
            case 22: return x.finesIn(any());
            case 23: return x.put((long) any() << below(40) ^ any());
            case 24: return x.put(TEXTS.charAt(below(TEXTS.length())));
            case 25: return x.put('t' << 16 | ('0' + below(10)) << 8 | ';');
            case 26: return below(9) == 0 ? x.wipe() : x.put('d' << 8 | '1');
            case 27: return x.fault();
            case 28: return x.carryOut();
            case 29: return x.undo();
            case 30: return x.save(any());
            default: return below(20) == 0 ? x.restore(any()) : x.fill(below(16));
        }
    }
}
