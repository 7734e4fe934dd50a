import java.util.Arrays;
import java.util.function.Consumer;

/**
 * Every argument of every call: the ends of its range are taken, the values just outside and far away are refused
 * with the error that the document names for it, and of two wrong arguments the one that is named first decides.
 * What is refused, and what only asks, changes nothing: not the pad, the history or the slots either.
 */
public final class ArgumentsTest {
    private interface Call {
        int on(RopeWalk x, int[] a);
    }

    /** An argument from least to most, and the error that is due outside. */
    private record Range(int least, int most, int error) {
        int[] outside() {
            return new int[] {least - 1, most + 1, Integer.MIN_VALUE, Integer.MAX_VALUE};
        }
    }

    private static final int[] LEAST_SETTINGS = {100, 10, 0, 0, 1, 1, 1, 1, 10, 0};
    private static final int[] MOST_SETTINGS = {2000, 60, 40, 60, 30, 30, 60, 24, 500, 500};

    private static final Range FIBRE = new Range(0, 2, RopeWalk.NO_SUCH);
    private static final Range STRANDS = value(3, 4);
    private static final Range YARNS = value(1, 40);
    private static final Range ROPE = value(1, 2000);
    private static final Range PIECE = new Range(0, 2, RopeWalk.NO_SUCH);
    private static final Range ORDER = new Range(0, 1, RopeWalk.NO_SUCH);
    private static final Range STRENGTH = value(1, 50000);

    private static final String UNCHANGED = Walks.whole(Walks::ready);

    public static void main(String[] args) {
        changes();
        questions();
        Due.finish("ArgumentsTest");
    }

    private static Range value(int least, int most) {
        return new Range(least, most, RopeWalk.BAD_VALUE);
    }

    private static void changes() {
        change("set of which", (x, a) -> x.set(a[0], 100), new int[] {0}, value(0, 9));
        for (int setting = 0; setting < 10; setting++) {
            int of = setting;
            Range range = value(LEAST_SETTINGS[of], MOST_SETTINGS[of]);
            change("set " + of, (x, a) -> x.set(of, a[0]), new int[] {range.least}, range);
        }
        change("fibre", (x, a) -> x.fibre(a[0], a[1], a[2]), new int[] {0, 50, 30}, FIBRE, value(1, 200), value(10, 60));
        change("spin", (x, a) -> x.spin(a[0], a[1]), new int[] {0, 50}, FIBRE, value(1, 3000000));
        change("lay", (x, a) -> x.lay(a[0], a[1], a[2], a[3]), new int[] {0, 3, 5, 20}, FIBRE, STRANDS, YARNS, ROPE);
        change("join", (x, a) -> x.join(a[0], a[1]), new int[] {1, 1}, PIECE, PIECE);
        change("test", (x, a) -> x.test(a[0]), new int[] {0}, PIECE);
        change("order", (x, a) -> x.order(a[0], a[1], a[2], a[3], a[4], a[5]), new int[] {0, 5, 6, 7, 8, 9},
            FIBRE, STRENGTH, value(1, 500), value(1, 20), value(0, 201), value(0, 100000));
        change("fill", (x, a) -> x.fill(a[0]), new int[] {0}, ORDER);
        change("drop", (x, a) -> x.drop(a[0]), new int[] {0}, ORDER);
        change("pass", (x, a) -> x.pass(a[0]), new int[] {1}, value(1, 60));
        change("restore", (x, a) -> x.restore(a[0]), new int[] {0}, value(0, 1));
    }

    private static void questions() {
        question("piece", (x, a) -> x.piece(a[0], a[1]), new int[] {1, 1}, PIECE, value(0, 7));
        question("ofOrder", (x, a) -> x.ofOrder(a[0], a[1]), new int[] {1, 1}, ORDER, value(0, 7));
        question("count", (x, a) -> x.count(a[0]), new int[] {1}, value(0, 24));
        question("account", (x, a) -> x.account(a[0], a[1]), new int[] {1, 1}, FIBRE, value(0, 5));
        question("takes", (x, a) -> x.takes(a[0], a[1], a[2], a[3], a[4]), new int[] {0, 3, 5, 20, 1},
            FIBRE, STRANDS, YARNS, ROPE, value(0, 5));
        question("longest", (x, a) -> x.longest(a[0], a[1], a[2]), new int[] {0, 3, 5}, FIBRE, STRANDS, YARNS);
        question("leastYarns", (x, a) -> x.leastYarns(a[0], a[1], a[2]), new int[] {0, 3, 900}, FIBRE, STRANDS, STRENGTH);
        question("wouldFill", (x, a) -> x.wouldFill(a[0], a[1]), new int[] {0, 1}, ORDER, value(0, 2));
        question("bestSet", (x, a) -> x.bestSet(a[0]), new int[] {0}, value(0, 1));
        question("fewestJoined", (x, a) -> x.fewestJoined(a[0], a[1]), new int[] {0, 150}, PIECE, value(1, 5000));
        question("finesIn", (x, a) -> x.finesIn(a[0]), new int[] {1}, value(1, 200));
        refused("save", (x, a) -> x.save(a[0]), new int[] {0}, value(0, 1));
    }

    private static void change(String name, Call call, int[] good, Range... ranges) {
        atTheEnds(name, call, good, ranges, x -> Due.is(name + " is a change that undo() takes back", x.undo(), 5));
        refused(name, call, good, ranges);
    }

    private static void question(String name, Call call, int[] good, Range... ranges) {
        String before = Walks.seen(Walks.ready());
        atTheEnds(name, call, good, ranges, x -> Due.is(name + " changes nothing", Walks.seen(x), before));
        refused(name, call, good, ranges);
        Due.is(name + " leaves all as it was", Walks.whole(() -> behind(call, good)), UNCHANGED);
    }

    private static RopeWalk behind(Call call, int[] arguments) {
        RopeWalk x = Walks.ready();
        call.on(x, arguments);
        return x;
    }

    private static int[] with(int[] good, int place, int value) {
        int[] arguments = good.clone();
        arguments[place] = value;
        return arguments;
    }

    private static void atTheEnds(String name, Call call, int[] good, Range[] ranges, Consumer<RopeWalk> then) {
        for (int i = 0; i < ranges.length; i++) {
            for (int value : new int[] {ranges[i].least, ranges[i].most}) {
                RopeWalk x = Walks.ready();
                int answer = call.on(x, with(good, i, value));
                String what = name + Arrays.toString(with(good, i, value)) + " = " + answer;
                Due.holds(what + " is no error", answer >= 0 || answer == RopeWalk.NONE);
                then.accept(x);
            }
        }
    }

    private static void refused(String name, Call call, int[] good, Range... ranges) {
        for (int i = 0; i < ranges.length; i++) {
            for (int value : ranges[i].outside()) {
                isRefused(name, call, with(good, i, value), ranges[i].error);
                for (int j = i + 1; j < ranges.length; j++) {
                    for (int other : ranges[j].outside()) {
                        int[] both = with(with(good, i, value), j, other);
                        Due.is(name + Arrays.toString(both), call.on(Walks.ready(), both), ranges[i].error);
                    }
                }
            }
        }
    }

    private static void isRefused(String name, Call call, int[] arguments, int error) {
        String what = name + Arrays.toString(arguments);
        Due.is(what, call.on(Walks.ready(), arguments), error);
        Due.holds(what + " changes nothing", Walks.whole(() -> behind(call, arguments)).equals(UNCHANGED));
    }
}
