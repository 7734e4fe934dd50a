import java.util.function.Supplier;

/**
 * The limits that the document names: 24 pieces, 16 orders, 80 characters, 9000000 feet, 6 states, day 3000, 10 orders
 * for bestSet; and what a rope walk has not enough of. For each, the last call that is allowed and the first one that
 * is refused, which error comes first, and that what is refused changes nothing.
 */
public final class LimitsTest {
    public static void main(String[] args) {
        pieces();
        piecesInATextAndBehindUndo();
        orders();
        ordersBehindUndo();
        characters();
        charactersOfATextThatIsCarriedOut();
        feetInTheStore();
        feetInTheStoreByTexts();
        states();
        statesByEachKindOfCall();
        statesBehindUndo();
        lastDay();
        lastDayByTexts();
        ordersForTheBestSet();
        whatIsMissing();
        refusedAtALimitChangesNothing();
        Due.finish("LimitsTest");
    }

    /** 24 pieces: of 20 feet, but for the last one, which has 30. */
    private static RopeWalk allPieces() {
        RopeWalk x = Walks.plain();
        for (int i = 0; i < 23; i++) {
            x.lay(0, 3, 1, 20);
        }
        x.lay(0, 3, 1, 30);
        x.pass(1);
        return x;
    }

    private static RopeWalk allOrders() {
        RopeWalk x = Walks.withPieces(100);
        for (int i = 0; i < 16; i++) {
            x.order(i % 3, 1 + i, 10 + i, 1, i, 100 + i);
        }
        return x;
    }

    private static RopeWalk fullPad() {
        RopeWalk x = Walks.withPieces(100);
        Walks.put(x, "d1;".repeat(26) + "d1");
        return x;
    }

    private static RopeWalk fullStore() {
        RopeWalk x = Walks.withPieces(100);
        for (int i = 0; i < 2; i++) {
            x.spin(0, 3000000);
        }
        x.spin(0, 450);
        return x;
    }

    private static RopeWalk lateWalk() {
        RopeWalk x = Walks.withPieces(100);
        for (int i = 0; i < 50; i++) {
            x.pass(60);
        }
        x.order(0, 1, 10, 2, 201, 5);
        return x;
    }

    private static void pieces() {
        Script.run("24 pieces", allPieces(), """
            count(1) = 24; piece(23, 3) = 30; piece(24, 3) = NO_SUCH; join(23, 24) = NO_SUCH; test(24) = NO_SUCH
            lay(0, 3, 1, 20) = TOO_MANY; longest(0, 3, 1) = 2000; takes(0, 3, 1, 20, 2) = 90
            lay(3, 3, 1, 20) = NO_SUCH; lay(0, 5, 1, 20) = BAD_VALUE; lay(0, 3, 41, 20) = BAD_VALUE; lay(0, 3, 1, 2001) = BAD_VALUE
            set(WALK, 100) = 2000; lay(0, 3, 1, 101) = TOO_MANY; lay(0, 4, 40, 2000) = TOO_MANY
            fewestJoined(23, 352) = 24; fewestJoined(0, 352) = 24; fewestJoined(0, 353) = NONE
            order(0, 1, 20, 20, 0, 1) = 0; ofOrder(0, 7) = 24; wouldFill(0, 0) = 20; wouldFill(0, 2) = 4; bestSet(1) = 20
            test(23) = 300; count(1) = 24; lay(0, 3, 1, 20) = TOO_MANY          // 25 feet are left of it
            join(23, 0) = 0; piece(0, 3) = 39; count(1) = 23; lay(0, 3, 1, 50) = 23; lay(0, 3, 1, 50) = TOO_MANY
            fill(0) = 20; count(1) = 4; lengths() = "39 20 20 50"; lay(0, 3, 1, 10) = 4""");
    }

    private static void piecesInATextAndBehindUndo() {
        Script.run("24 pieces, in a text", allPieces(), """
            put("j0&1;l0:3x1=40;l0:3x1=50;d1"); carryOut() = 2; count(1) = 24; piece(23, 3) = 40; count(0) = 1; count(7) = 0
            undo() = 5; count(1) = 24; piece(23, 3) = 30; lay(0, 3, 1, 20) = TOO_MANY
            undo() = 4; undo() = 3; count(1) = 23; count(3) = 1; lay(0, 3, 1, 40) = 23; lay(0, 3, 1, 1) = TOO_MANY""");
    }

    private static void orders() {
        Script.run("16 orders", allOrders(), """
            count(2) = 16; ofOrder(15, 6) = 115; ofOrder(16, 6) = NO_SUCH; fill(16) = NO_SUCH; drop(16) = NO_SUCH; wouldFill(16, 0) = NO_SUCH
            order(0, 1, 1, 1, 0, 0) = TOO_MANY; order(3, 1, 1, 1, 0, 0) = NO_SUCH; order(-1, 0, 0, 0, -1, -1) = NO_SUCH
            order(0, 0, 1, 1, 0, 0) = BAD_VALUE; order(0, 50001, 1, 1, 0, 0) = BAD_VALUE; order(0, 1, 501, 1, 0, 0) = BAD_VALUE
            order(0, 1, 1, 21, 0, 0) = BAD_VALUE; order(0, 1, 1, 1, 202, 0) = BAD_VALUE; order(0, 1, 1, 1, 0, 100001) = BAD_VALUE
            drop(15) = 50; order(2, 9, 9, 9, 9, 9) = 15; order(0, 1, 1, 1, 0, 0) = TOO_MANY
            drop(0) = 50; ofOrder(14, 6) = 9; order(1, 8, 8, 8, 8, 8) = 15; ofOrder(15, 6) = 8; order(0, 1, 1, 1, 0, 0) = TOO_MANY
            fill(2) = 1; ofOrder(14, 6) = 8; order(1, 7, 7, 7, 7, 7) = 15; order(0, 1, 1, 1, 0, 0) = TOO_MANY""");
    }

    private static void ordersBehindUndo() {
        Script.run("16 orders, behind undo", allOrders(), """
            drop(3) = 50; order(0, 1, 1, 1, 0, 900) = 15; undo() = 5; count(2) = 15; ofOrder(14, 6) = 115; ofOrder(15, 6) = NO_SUCH
            undo() = 4; count(2) = 16; ofOrder(3, 6) = 103; order(0, 1, 1, 1, 0, 0) = TOO_MANY; undo() = 3; count(2) = 15
            order(0, 1, 1, 1, 0, 800) = 15; ofOrder(15, 6) = 800; order(0, 1, 1, 1, 0, 0) = TOO_MANY""");
    }

    private static void characters() {
        Script.run("80 characters", """
            9 * put(0x7474747474747474); count(7) = 72; put(0x74747474747474) = 79; put(0x7474) = TOO_MANY; count(7) = 79
            put(0x7420) = BAD_VALUE; put(0) = BAD_VALUE; put(0x74) = 80; count(7) = 80; put(0x74) = TOO_MANY; put(0) = BAD_VALUE
            put(0x20) = BAD_VALUE; put(0x7F) = BAD_VALUE; put(0x7400) = BAD_VALUE; put(0x7474747474747474) = TOO_MANY; count(7) = 80
            wipe() = 80; count(7) = 0; put(0x7474747474747474) = 8""");
        Script.run("80 characters, eight at once", """
            9 * put(0x7474747474747474); put(0x7474747474747474) = 80; put(0x74) = TOO_MANY; wipe() = 80
            9 * put(0x7474747474747474); put(0x74) = 73; put(0x7474747474747474) = TOO_MANY; put(0x74747474747474) = 80""");
    }

    private static void charactersOfATextThatIsCarriedOut() {
        Script.run("80 characters of a good text", fullPad(), """
            count(7) = 80; fault() = NONE; put(0x3B) = TOO_MANY; carryOut() = 27; count(0) = 27; count(7) = 0; put("d1") = 2
            carryOut() = 1; count(0) = 28""");
        Script.run("80 characters with a fault at the last", """
            put("d1;d1;d1;d1;d1;d1;d1;d1;d1;d1;d1;d1;d1;d1;d1;d1;d1;d1;d1;d1;d1;d1;d1;d1;d1;d1;dd") = 80
            fault() = 79; carryOut() = BAD_TEXT; count(7) = 80; count(0) = 0""");
        Script.run("80 characters that end too early", """
            put("d1;d1;d1;d1;d1;d1;d1;d1;d1;d1;d1;d1;d1;d1;d1;d1;d1;d1;d1;d1;d1;d1;d1;d1;d1;d100;") = 80
            fault() = 80; carryOut() = BAD_TEXT; put(0x64) = TOO_MANY; fault() = 80; count(7) = 80""");
        Script.run("80 characters that end in a number", """
            put("d1;d1;d1;d1;d1;d1;d1;d1;d1;d1;d1;d1;d1;d1;d1;d1;d1;d1;d1;d1;d1;d1;d1;d1;y0+99999") = 80
            fault() = NONE; carryOut() = 25; account(0, 1) = 99999; count(0) = 24""");
    }

    private static void feetInTheStore() {
        Script.run("9000000 feet", """
            2 * spin(0, 3000000); spin(0, 2999998) = 8999998; spin(0, 3) = NOT_POSSIBLE; spin(0, 3000000) = NOT_POSSIBLE
            spin(0, 3000001) = BAD_VALUE; spin(0, 1) = 8999999; spin(0, 2) = NOT_POSSIBLE; spin(0, 1) = 9000000; spin(0, 1) = NOT_POSSIBLE
            spin(0, 0) = BAD_VALUE; spin(0, MAX) = BAD_VALUE; spin(3, 1) = NO_SUCH; account(0, 1) = 9000000; account(0, 0) = 9000000
            spin(1, 3000000) = 3000000; spin(2, 1) = 1""");
        Script.run("9000000 feet, and more was spun", fullStore(), """
            account(0, 1) = 9000000; account(0, 0) = 9000450; account(0, 2) = 450; spin(0, 1) = NOT_POSSIBLE
            lay(0, 4, 40, 1000) = 1; account(0, 1) = 8760000; spin(0, 240001) = NOT_POSSIBLE; spin(0, 240000) = 9000000
            account(0, 0) = 9240450; undo() = 5; account(0, 0) = 9000450; spin(0, 240001) = NOT_POSSIBLE; spin(0, 239999) = 8999999""");
    }

    private static void feetInTheStoreByTexts() {
        Script.run("9000000 feet, by texts", fullStore(), """
            put("y0+1;y1+5"); carryOut() = 0; account(1, 1) = 3000000; put("l0:3x1=2;y0+9;y0+1"); carryOut() = 2
            account(0, 1) = 9000000; account(0, 0) = 9000459""");
    }

    private static void states() {
        Script.run("6 states", """
            count(8) = 0; undo() = NOT_POSSIBLE; pass(1); count(8) = 1; pass(1); pass(1); pass(1); pass(1); count(8) = 5
            pass(1) = 6; count(8) = 6; pass(1) = 7; count(8) = 6
            undo() = 5; count(0) = 6; undo() = 4; undo() = 3; undo() = 2; undo() = 1; count(0) = 2; undo() = 0; count(0) = 1
            undo() = NOT_POSSIBLE; count(0) = 1; count(8) = 0""");
        Script.run("6 states, all of them", """
            6 * pass(1); count(8) = 6; 5 * undo(); count(8) = 1; undo() = 0; count(0) = 0; undo() = NOT_POSSIBLE""");
        Script.run("6 states of a hundred", """
            100 * pass(2); count(8) = 6; undo() = 5; count(0) = 198; 4 * undo(); undo() = 0; count(0) = 188; undo() = NOT_POSSIBLE""");
    }

    /** Seven changes of one kind: the first one can't be undone. */
    private static void statesByEachKindOfCall() {
        String[] calls = {
            "set(FINE, 60)", "fibre(0, 70, 20)", "spin(0, 5)", "lay(0, 3, 1, 20)", "join(0, 1)", "test(0)",
            "order(0, 1, 2, 3, 4, 5)", "fill(0)", "drop(0)", "pass(1)", "put(\"t0\"); carryOut()", "restore(0)"
        };
        for (String call : calls) {
            for (int changes = 1; changes <= 7; changes++) {
                RopeWalk x = changed(call, changes);
                Due.is(call + ": count(8) behind " + changes, x.count(8), Math.min(6, 2 + changes));
                int undone = changes == 1 ? 6 : 7 - changes;
                x = changed(call, 7);
                for (int i = 1; i <= undone; i++) {
                    Due.is(call + ": undo() " + i, x.undo(), 6 - i);
                }
                if (changes == 1) {
                    Due.is(call + ": the seventh undo()", x.undo(), RopeWalk.NOT_POSSIBLE);
                }
                Due.is(call + ": " + undone + " undone", Walks.seen(x), Walks.seen(changed(call, 7 - undone)));
            }
        }
    }

    /** A walk with two states in its history (there had been more, that were undone), and then changes of one kind. */
    private static RopeWalk changed(String call, int times) {
        return Script.run(call, Walks.withPieces(90, 91, 92, 93, 94, 95, 96, 97),
            "12 * order(0, 1, 10, 1, 0, 0); drop(0); save(0); 4 * undo(); 2 * order(0, 1, 5, 1, 0, 0); 2 * undo()\n"
                + (call + ";").repeat(times));
    }

    private static void statesBehindUndo() {
        Script.run("6 states, behind undo", """
            9 * pass(1); 4 * undo(); count(8) = 2; count(0) = 5; 3 * pass(10); count(8) = 5; pass(10) = 45; count(8) = 6
            pass(10) = 55; count(8) = 6; 4 * undo(); count(0) = 15; undo() = 1; count(0) = 5; undo() = 0; count(0) = 4
            undo() = NOT_POSSIBLE""");
        Script.run("6 states: what is refused and what is no change records nothing", """
            6 * pass(1); pass(61) = BAD_VALUE; set(10, 0) = BAD_VALUE; save(0) = 6; put("d1;") = 3; carryOut() = BAD_TEXT; wipe() = 3
            fault() = 0; bestSet(0) = 0; count(8) = 6; 5 * undo(); undo() = 0; count(0) = 0""");
    }

    private static void lastDay() {
        Script.run("day 3000", """
            49 * pass(60); pass(1) = 2941; pass(60) = NOT_POSSIBLE; pass(61) = BAD_VALUE; count(0) = 2941; pass(58) = 2999
            pass(2) = NOT_POSSIBLE; count(0) = 2999; pass(1) = 3000; pass(1) = NOT_POSSIBLE; pass(0) = BAD_VALUE; count(0) = 3000""");
        Script.run("day 3000 at once", """
            49 * pass(60); pass(60) = 3000; pass(1) = NOT_POSSIBLE; pass(60) = NOT_POSSIBLE; undo() = 5; count(0) = 2940; pass(60) = 3000""");
        Script.run("day 3000: orders and fines go on", lateWalk(), """
            count(0) = 3000; ofOrder(0, 5) = 3100; finesIn(100) = 0; finesIn(101) = 100; finesIn(200) = 10000; drop(0) = 100
            order(0, 1, 10, 1, 0, 5) = 0; finesIn(200) = 10000; pass(1) = NOT_POSSIBLE; count(6) = 100; fill(0) = 1; save(0) = 3000""");
    }

    private static void lastDayByTexts() {
        Script.run("day 3000, by texts", """
            49 * pass(60); put("d59;d2;d1") = 9; carryOut() = 1; count(0) = 2999; put("d1;d1;d1") = 8; carryOut() = 1; count(0) = 3000
            put("d1") = 2; carryOut() = 0; count(0) = 3000; put("d60") = 3; carryOut() = 0; put("d0") = 2; carryOut() = 0""");
    }

    private static void ordersForTheBestSet() {
        Script.run("10 orders for bestSet", Walks.withPieces(500), """
            9 * order(0, 1, 10, 1, 0, 1); order(0, 1, 10, 1, 0, 1000) = 9; bestSet(0) = 1023; bestSet(1) = 1009
            order(0, 1, 10, 1, 0, 90000) = 10; bestSet(0) = 1023; bestSet(1) = 1009
            5 * order(0, 1, 10, 1, 0, 90000); count(2) = 16; bestSet(0) = 1023; bestSet(1) = 1009
            drop(0) = 50; bestSet(0) = 1023; bestSet(1) = 91008; drop(9) = 50; bestSet(1) = 91008; drop(8) = 50; bestSet(1) = 180008
            3 * drop(9); count(2) = 10; bestSet(0) = 1023; drop(9) = 50; bestSet(0) = 511; bestSet(1) = 90008""");
        Script.run("10 orders for bestSet: the tenth alone suits", Walks.withPieces(500), """
            9 * order(1, 1, 10, 1, 0, 7); order(0, 1, 10, 1, 0, 3) = 9; order(0, 1, 10, 1, 0, 5) = 10; bestSet(0) = 512; bestSet(1) = 3""");
        Script.run("10 orders for bestSet: the eleventh alone suits", Walks.withPieces(500), """
            10 * order(1, 1, 10, 1, 0, 7); order(0, 1, 10, 1, 0, 3) = 10; bestSet(0) = 0; bestSet(1) = 0; drop(4) = 50
            bestSet(0) = 512; bestSet(1) = 3""");
    }

    private static void whatIsMissing() {
        Script.run("what a new rope walk has not", """
            lay(0, 3, 1, 1) = NOT_POSSIBLE; join(0, 1) = NO_SUCH; test(0) = NO_SUCH; fill(0) = NO_SUCH; drop(0) = NO_SUCH
            wouldFill(0, 3) = NO_SUCH; fewestJoined(0, 0) = NO_SUCH; piece(0, 8) = NO_SUCH; ofOrder(0, 8) = NO_SUCH
            undo() = NOT_POSSIBLE; restore(0) = NOT_POSSIBLE; restore(1) = NOT_POSSIBLE; carryOut() = BAD_TEXT; count(8) = 0""");
    }

    private static void refusedAtALimitChangesNothing() {
        changesNothing("lay with 24 pieces", LimitsTest::allPieces, x -> x.lay(0, 3, 1, 20), RopeWalk.TOO_MANY);
        changesNothing("order with 16 orders", LimitsTest::allOrders, x -> x.order(0, 1, 1, 1, 0, 0), RopeWalk.TOO_MANY);
        changesNothing("put with 80 characters", LimitsTest::fullPad, x -> x.put('t'), RopeWalk.TOO_MANY);
        changesNothing("spin with a full store", LimitsTest::fullStore, x -> x.spin(0, 1), RopeWalk.NOT_POSSIBLE);
        changesNothing("pass on day 3000", LimitsTest::lateWalk, x -> x.pass(1), RopeWalk.NOT_POSSIBLE);
        changesNothing("lay, too long", () -> Script.run("a short walk", Walks.withPieces(50), "set(WALK, 100)"),
            x -> x.lay(0, 3, 1, 101), RopeWalk.NOT_POSSIBLE);
        changesNothing("lay without hours", () -> Script.run("a short day", Walks.withPieces(50), "set(HOURS, 2)"),
            x -> x.lay(0, 3, 1, 167), RopeWalk.NOT_POSSIBLE);
        changesNothing("lay without yarn", () -> Script.run("some yarn", "6 * spin(0, 1)"), x -> x.lay(0, 3, 1, 1), RopeWalk.NOT_POSSIBLE);
        changesNothing("test of a short piece", () -> Walks.withPieces(20, 4), x -> x.test(1), RopeWalk.NOT_POSSIBLE);
        changesNothing("join of a short piece", () -> Walks.withPieces(20, 6), x -> x.join(0, 1), RopeWalk.NOT_POSSIBLE);
        changesNothing("join with itself", Walks::ready, x -> x.join(1, 1), RopeWalk.NO_SUCH);
        changesNothing("fill that nothing suits", LimitsTest::allOrders, x -> x.fill(1), RopeWalk.NOT_POSSIBLE);
        changesNothing("carryOut of a fault", LimitsTest::allOrders, x -> x.carryOut(), RopeWalk.BAD_TEXT);
        changesNothing("restore of nothing", LimitsTest::allOrders, x -> x.restore(0), RopeWalk.NOT_POSSIBLE);
        changesNothing("undo of nothing", RopeWalk::new, RopeWalk::undo, RopeWalk.NOT_POSSIBLE);
    }

    private interface Call {
        int on(RopeWalk x);
    }

    private static void changesNothing(String name, Supplier<RopeWalk> make, Call call, int error) {
        Due.is(name, call.on(make.get()), error);
        String behind = Walks.whole(() -> {
            RopeWalk x = make.get();
            call.on(x);
            return x;
        });
        Due.holds(name + " changes nothing", behind.equals(Walks.whole(make)));
    }
}
