/** Runs of random calls, always the same ones, on RopeWalk and on SlowWalk: each answer has to be the same. */
public final class RandomRunsTest {
    private static final int RUNS = 1500;
    private static final int CALLS = 512;
    /** The most calls that one step makes. */
    private static final int MOST_AT_ONCE = 90;

    private final RopeWalk x = new RopeWalk();
    private final SlowWalk slow = new SlowWalk();
    private final StringBuilder calls = new StringBuilder();
    private long state;
    private int made;
    private boolean differs;

    private RandomRunsTest(int run) {
        state = run * 7919L + 17;
    }

    public static void main(String[] args) {
        for (int run = 0; run < RUNS; run++) {
            new RandomRunsTest(run).compare(run);
        }
        Due.finish("RandomRunsTest");
    }

    private void compare(int run) {
        for (int i = 0; made <= CALLS - MOST_AT_ONCE && !differs; i++) {
            if (run % 4 == 3 && i % 40 < 20 || run % 4 == 2 && i < 60) {
                changeWhatHelps();
            } else {
                anyCall();
            }
        }
        Due.holds("run " + run + (differs ? ":\n" + calls : ""), !differs);
    }

    private int below(int bound) {
        state = state * 6364136223846793005L + 1442695040888963407L;
        return (int) ((state >>> 33) % bound);
    }

    private int from(int least, int most) {
        return least + below(most - least + 1);
    }

    /** Mostly a number in a range, now and then one beside it or far away. */
    private int near(int least, int most) {
        switch (below(40)) {
            case 0: return least - 1;
            case 1: return most + 1;
            case 2: return least;
            case 3: return most;
            case 4: return below(2) == 0 ? Integer.MAX_VALUE : Integer.MIN_VALUE;
            default: return from(least, most);
        }
    }

    private int nearFibre() {
        return below(30) == 0 ? near(0, 2) : below(3) / 2;
    }

    private int nearPiece() {
        return near(0, Math.max(0, slow.count(1) - 1));
    }

    private int nearOrder() {
        return near(0, Math.max(0, slow.count(2) - 1));
    }

    private void due(String call, int got, int want) {
        made++;
        calls.append(call).append(" = ").append(got);
        if (got != want) {
            calls.append(" for ").append(want);
            differs = true;
        }
        calls.append('\n');
    }

    private void changeWhatHelps() {
        switch (below(7)) {
            case 0: spin(below(2), from(1000, 3000000)); break;
            case 1: case 2: case 3: lay(below(2), 3, 1 + below(2), from(1, 120)); break;
            case 4: pass(1); break;
            default: order(below(2), from(1, 120), from(1, 60), from(1, 8), from(0, 30), from(0, 5) * 50);
        }
    }

    private void anyCall() {
        switch (below(24)) {
            case 0: set(); break;
            case 1: fibre(nearFibre(), near(1, 200), near(10, 60)); break;
            case 2: spin(nearFibre(), near(1, 3000000)); break;
            case 3: case 4: case 5: lay(nearFibre(), near(3, 4), below(3) == 0 ? near(1, 40) : 2, near(1, below(4) == 0 ? 2000 : 90)); break;
            case 6: join(nearPiece(), nearPiece()); break;
            case 7: test(nearPiece()); break;
            case 8: case 9: order(nearFibre(), near(1, below(3) == 0 ? 50000 : 400), near(1, below(3) == 0 ? 500 : 40),
                near(1, 20), near(0, 201), near(0, below(2) == 0 ? 100000 : 2)); break;
            case 10: case 11: fill(nearOrder()); break;
            case 12: drop(nearOrder()); break;
            case 13: pass(below(3) == 0 ? near(1, 60) : 1); break;
            case 14: due("undo()", x.undo(), slow.undo()); break;
            case 15: saving(); break;
            case 16: case 17: text(); break;
            case 18: whatThereIs(); break;
            case 19: sometimesAll(); break;
            default: whatIf();
        }
    }

    private void set() {
        int setting = near(0, 9);
        int[] most = {2000, 60, 40, 60, 30, 30, 60, 24, 500, 500};
        int value = near(setting == 0 ? 100 : 0, setting >= 0 && setting < 10 ? most[setting] : 50);
        due("set(" + setting + ", " + value + ")", x.set(setting, value), slow.set(setting, value));
    }

    private void fibre(int fibre, int strength, int twist) {
        due("fibre(" + fibre + ", " + strength + ", " + twist + ")", x.fibre(fibre, strength, twist), slow.fibre(fibre, strength, twist));
    }

    private void spin(int fibre, int feet) {
        due("spin(" + fibre + ", " + feet + ")", x.spin(fibre, feet), slow.spin(fibre, feet));
    }

    private void lay(int fibre, int strands, int yarns, int feet) {
        due("lay(" + fibre + ", " + strands + ", " + yarns + ", " + feet + ")", x.lay(fibre, strands, yarns, feet),
            slow.lay(fibre, strands, yarns, feet));
    }

    private void join(int piece, int other) {
        due("join(" + piece + ", " + other + ")", x.join(piece, other), slow.join(piece, other));
    }

    private void test(int piece) {
        due("test(" + piece + ")", x.test(piece), slow.test(piece));
    }

    private void order(int fibre, int strength, int feet, int many, int terms, int price) {
        due("order(" + fibre + ", " + strength + ", " + feet + ", " + many + ", " + terms + ", " + price + ")",
            x.order(fibre, strength, feet, many, terms, price), slow.order(fibre, strength, feet, many, terms, price));
    }

    private void fill(int order) {
        due("fill(" + order + ")", x.fill(order), slow.fill(order));
    }

    private void drop(int order) {
        due("drop(" + order + ")", x.drop(order), slow.drop(order));
    }

    private void pass(int days) {
        due("pass(" + days + ")", x.pass(days), slow.pass(days));
    }

    private void saving() {
        int slot = near(0, 1);
        if (below(2) == 0) {
            due("save(" + slot + ")", x.save(slot), slow.save(slot));
        } else {
            due("restore(" + slot + ")", x.restore(slot), slow.restore(slot));
        }
    }

    private void text() {
        if (below(12) == 0) {
            due("wipe()", x.wipe(), slow.wipe());
        }
        StringBuilder text = new StringBuilder();
        for (int jobs = from(1, 4); jobs > 0; jobs--) {
            text.append(job()).append(jobs > 1 ? ";" : "");
        }
        if (below(3) == 0) {
            text.setCharAt(below(text.length()), (char) from(33, 126));
        }
        if (below(20) == 0) {
            text.setCharAt(below(text.length()), (char) from(0, 255));
        }
        if (slow.count(7) > 0) {
            text.insert(0, ';');
        }
        for (int i = 0; i < text.length();) {
            int end = Math.min(text.length(), i + from(1, 8));
            long packed = Walks.packed(text.substring(i, end));
            due("put(" + packed + "L)", x.put(packed), slow.put(packed));
            i = end;
        }
        due("fault()", x.fault(), slow.fault());
        if (below(4) > 0) {
            due("carryOut()", x.carryOut(), slow.carryOut());
        }
    }

    private String job() {
        int most = below(15) == 0 ? 120000 : 3;
        switch (below(7)) {
            case 0: return "y" + below(3) + "+" + from(0, 30000);
            case 1: case 2: return "l" + below(2) + ":" + from(3, 4) + "x" + from(0, most) + "=" + from(0, 90);
            case 3: return "j" + from(0, most) + "&" + from(0, most);
            case 4: return "t" + from(0, most);
            case 5: return "f" + from(0, most);
            default: return "d" + from(0, most);
        }
    }

    private void whatThereIs() {
        int piece = nearPiece();
        int order = nearOrder();
        int fibre = nearFibre();
        int what = near(0, 7);
        due("piece(" + piece + ", " + what + ")", x.piece(piece, what), slow.piece(piece, what));
        due("ofOrder(" + order + ", " + what + ")", x.ofOrder(order, what), slow.ofOrder(order, what));
        due("account(" + fibre + ", " + what + ")", x.account(fibre, what), slow.account(fibre, what));
        int other = near(0, 24);
        due("count(" + other + ")", x.count(other), slow.count(other));
    }

    private void sometimesAll() {
        switch (below(12)) {
            case 0: all(); break;
            case 1: allPiecesAndOrders(); break;
            default: whatIf();
        }
    }

    /** All there is but for pieces and orders, and all of one piece and one order. */
    private void all() {
        for (int what = 0; what < 25; what++) {
            due("count(" + what + ")", x.count(what), slow.count(what));
        }
        int piece = nearPiece();
        int order = nearOrder();
        for (int what = 0; what < 8; what++) {
            due("piece(" + piece + ", " + what + ")", x.piece(piece, what), slow.piece(piece, what));
            due("ofOrder(" + order + ", " + what + ")", x.ofOrder(order, what), slow.ofOrder(order, what));
            for (int fibre = 0; fibre < 3; fibre++) {
                due("account(" + fibre + ", " + what + ")", x.account(fibre, what), slow.account(fibre, what));
            }
        }
    }

    private void allPiecesAndOrders() {
        for (int i = 0; i <= slow.count(1); i++) {
            due("piece(" + i + ", 3)", x.piece(i, 3), slow.piece(i, 3));
            due("piece(" + i + ", 4)", x.piece(i, 4), slow.piece(i, 4));
        }
        for (int i = 0; i <= slow.count(2); i++) {
            due("ofOrder(" + i + ", 3)", x.ofOrder(i, 3), slow.ofOrder(i, 3));
            due("ofOrder(" + i + ", 7)", x.ofOrder(i, 7), slow.ofOrder(i, 7));
        }
    }

    private void whatIf() {
        int fibre = nearFibre();
        int strands = near(3, 4);
        int yarns = near(1, 40);
        switch (below(7)) {
            case 0: takes(fibre, strands, yarns, near(1, 2000), near(0, 5)); break;
            case 1: due("longest", x.longest(fibre, strands, yarns), slow.longest(fibre, strands, yarns)); break;
            case 2: leastYarns(fibre, strands, near(1, below(3) == 0 ? 50000 : 3000)); break;
            case 3: wouldFill(nearOrder(), near(0, 2)); break;
            case 4: bestSet(near(0, 1)); break;
            case 5: fewestJoined(nearPiece(), near(1, below(3) == 0 ? 5000 : 400)); break;
            default: finesIn(near(1, 200));
        }
    }

    private void takes(int fibre, int strands, int yarns, int feet, int what) {
        due("takes(" + fibre + ", " + strands + ", " + yarns + ", " + feet + ", " + what + ")",
            x.takes(fibre, strands, yarns, feet, what), slow.takes(fibre, strands, yarns, feet, what));
    }

    private void leastYarns(int fibre, int strands, int strength) {
        due("leastYarns(" + fibre + ", " + strands + ", " + strength + ")", x.leastYarns(fibre, strands, strength),
            slow.leastYarns(fibre, strands, strength));
    }

    private void wouldFill(int order, int what) {
        due("wouldFill(" + order + ", " + what + ")", x.wouldFill(order, what), slow.wouldFill(order, what));
    }

    private void bestSet(int what) {
        due("bestSet(" + what + ")", x.bestSet(what), slow.bestSet(what));
    }

    private void fewestJoined(int piece, int feet) {
        due("fewestJoined(" + piece + ", " + feet + ")", x.fewestJoined(piece, feet), slow.fewestJoined(piece, feet));
    }

    private void finesIn(int days) {
        due("finesIn(" + days + ")", x.finesIn(days), slow.finesIn(days));
    }
}
