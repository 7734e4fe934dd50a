import java.lang.management.ManagementFactory;

/**
 * Runs of 512 calls with numbers from everywhere: none may throw (a throw ends the test with an error), and what a
 * run makes, the constructor's rows among it, is a small part of the room that there is for a run (some 600,000
 * objects with 7.3 million fields and elements).
 */
public final class RoomTest {
    private static final int[] NUMBERS = {
        0, 1, 2, 3, 4, 5, 6, 7, 8, 9, 10, 15, 16, 20, 23, 24, 25, 30, 40, 41, 50, 60, 61, 80, 100, 200, 201, 255, 500,
        1000, 2000, 3000, 5000, 50000, 99999, 100000, 3000000, 9000000, -1, -2, -100, 1 << 30, Integer.MAX_VALUE,
        Integer.MIN_VALUE, Integer.MAX_VALUE - 1, Integer.MIN_VALUE + 1
    };
    private static final String TEXTS = "yljtfd0123456789:;x=&+";
    private static final int RUNS = 500;
    private static final int CALLS = 512;
    private static final long MOST_BYTES = 2000000;

    private static long state = 1;

    public static void main(String[] args) {
        com.sun.management.ThreadMXBean bean = (com.sun.management.ThreadMXBean) ManagementFactory.getThreadMXBean();
        for (int run = 0; run < RUNS; run++) {
            long before = bean.getCurrentThreadAllocatedBytes();
            run(run % 2 == 0 ? 32 : 64);
            long bytes = bean.getCurrentThreadAllocatedBytes() - before;
            Due.holds("run " + run + " made objects of " + bytes + " bytes", bytes < MOST_BYTES);
        }
        dearestRun(bean);
        Due.finish("RoomTest");
    }

    private static void run(int kinds) {
        RopeWalk x = new RopeWalk();
        if (kinds > 32) {
            x.spin(0, 3000000);
            x.set(RopeWalk.SPEED, 500);
        }
        for (int i = 2; i < CALLS; i++) {
            int which = below(kinds);
            call(x, which < 32 ? which : which % 5 + 4);
        }
    }

    /** bestSet with all pieces and ten orders that each get two ropes, again and again. */
    private static void dearestRun(com.sun.management.ThreadMXBean bean) {
        long before = bean.getCurrentThreadAllocatedBytes();
        RopeWalk x = Walks.plain();
        for (int i = 0; i < 24; i++) {
            x.lay(0, 3, 1, 20);
        }
        for (int i = 0; i < 10; i++) {
            x.order(0, 1, 20, 2, 0, 1 << i);
        }
        for (int i = 0; i < 460; i++) {
            Due.is("bestSet(1)", x.bestSet(1), 2046);
        }
        long bytes = bean.getCurrentThreadAllocatedBytes() - before;
        Due.holds("the dearest run made objects of " + bytes + " bytes", bytes < MOST_BYTES);
    }

    private static int below(int bound) {
        state = state * 6364136223846793005L + 1442695040888963407L;
        return (int) ((state >>> 33) % bound);
    }

    private static int any() {
        return NUMBERS[below(below(3) == 0 ? NUMBERS.length : 8)];
    }

    private static int call(RopeWalk x, int which) {
        switch (which) {
            case 0: return x.set(any(), any());
            case 1: return x.fibre(any(), any(), any());
            case 2: return x.spin(any(), any());
            case 3: return x.lay(any(), any(), any(), any());
            case 4: return x.lay(below(3), 3, 1, 1 + below(99));
            case 5: return x.join(any(), any());
            case 6: return x.test(any());
            case 7: return x.order(any(), any(), any(), any(), any(), any());
            case 8: return x.order(below(3), 1 + below(99), 1 + below(50), 1 + below(20), below(40), below(9));
            case 9: return x.fill(any());
            case 10: return x.drop(any());
            case 11: return x.pass(any());
            case 12: return x.piece(any(), any());
            case 13: return x.ofOrder(any(), any());
            case 14: return x.count(any());
            case 15: return x.account(any(), any());
            case 16: return x.takes(any(), any(), any(), any(), any());
            case 17: return x.longest(any(), any(), any());
            case 18: return x.leastYarns(any(), any(), any());
            case 19: return x.wouldFill(any(), any());
            case 20: return x.bestSet(any());
            case 21: return x.fewestJoined(any(), any());
            case 22: return x.finesIn(any());
            case 23: return x.put((long) any() << below(40) ^ any());
            case 24: return x.put(TEXTS.charAt(below(TEXTS.length())));
            case 25: return x.put('t' << 16 | ('0' + below(10)) << 8 | ';');
            case 26: return below(9) == 0 ? x.wipe() : x.put('d' << 8 | '1');
            case 27: return x.fault();
            case 28: return x.carryOut();
            case 29: return x.undo();
            case 30: return x.save(any());
            default: return below(20) == 0 ? x.restore(any()) : x.fill(below(16));
        }
    }
}
