/** Promises 8 to 11: order, fill, drop, pass. */
public final class OrdersTest {
    public static void main(String[] args) {
        promise8Order();
        promise8Edges();
        promise8WrongInputs();
        promise8TooMany();
        promise9Fill();
        promise9ShortestFirst();
        promise9WhatSuits();
        promise9Ends();
        promise9OfOneFoot();
        promise9WrongInputs();
        promise10Drop();
        promise11Pass();
        promise11Fines();
        promise11WrongInputs();
        promise8Terms();
        promise8AtTheEndOfTime();
        promise9NoPieceSuits();
        promise9OneAndTwenty();
        promise10WhetherItIsDueOrNot();
        promise11OneAndSixtyDays();
        promise11EachDayByItself();
        Due.finish("OrdersTest");
    }

    private static void promise8Order() {
        RopeWalk x = new RopeWalk();
        x.pass(3);
        Due.is("order(2, 300, 40, 5, 7, 900)", x.order(2, 300, 40, 5, 7, 900), 0);
        int[] all = {2, 300, 40, 5, 1, 6, 900, 0};
        for (int what = 0; what < 8; what++) {
            Due.is("ordered: ofOrder(0, " + what + ")", x.ofOrder(0, what), all[what]);
        }
        Due.is("order(1, 20, 30, 2, 8, 0)", x.order(1, 20, 30, 2, 8, 0), 1);
        Due.is("no splices", x.ofOrder(1, 4), 0);
        Due.is("due", x.ofOrder(1, 5), 7);
        Due.is("count(2)", x.count(2), 2);
        Due.is("order: count(8)", x.count(8), 3);
        x.undo();
        Due.is("order undone", x.count(2), 1);
    }

    private static void promise8Edges() {
        RopeWalk x = new RopeWalk();
        Due.is("order of the least", x.order(0, 1, 1, 1, 0, 0), 0);
        Due.is("order of the most", x.order(2, 50000, 500, 20, 201, 100000), 1);
        int[] all = {2, 50000, 500, 20, 1, 100, 100000, 0};
        for (int what = 0; what < 8; what++) {
            Due.is("most: ofOrder(1, " + what + ")", x.ofOrder(1, what), all[what]);
        }
        Due.is("least: due", x.ofOrder(0, 5), 0);
        Due.is("least: splices", x.ofOrder(0, 4), 0);
        x.order(0, 1, 1, 1, 1, 0);
        Due.is("terms 1: due", x.ofOrder(2, 5), 0);
        Due.is("terms 1: splices", x.ofOrder(2, 4), 1);
        x.order(0, 1, 1, 1, 2, 0);
        Due.is("terms 2: due", x.ofOrder(3, 5), 1);
        Due.is("terms 2: splices", x.ofOrder(3, 4), 0);
    }

    private static void promise8WrongInputs() {
        RopeWalk x = new RopeWalk();
        Due.is("order(3, 0, ..)", x.order(3, 0, 0, 0, -1, -1), RopeWalk.NO_SUCH);
        Due.is("order(-1, ..)", x.order(-1, 1, 1, 1, 0, 0), RopeWalk.NO_SUCH);
        Due.is("strength 0", x.order(0, 0, 1, 1, 0, 0), RopeWalk.BAD_VALUE);
        Due.is("strength 50001", x.order(0, 50001, 1, 1, 0, 0), RopeWalk.BAD_VALUE);
        Due.is("feet 0", x.order(0, 1, 0, 1, 0, 0), RopeWalk.BAD_VALUE);
        Due.is("feet 501", x.order(0, 1, 501, 1, 0, 0), RopeWalk.BAD_VALUE);
        Due.is("many 0", x.order(0, 1, 1, 0, 0, 0), RopeWalk.BAD_VALUE);
        Due.is("many 21", x.order(0, 1, 1, 21, 0, 0), RopeWalk.BAD_VALUE);
        Due.is("terms -1", x.order(0, 1, 1, 1, -1, 0), RopeWalk.BAD_VALUE);
        Due.is("terms 202", x.order(0, 1, 1, 1, 202, 0), RopeWalk.BAD_VALUE);
        Due.is("price -1", x.order(0, 1, 1, 1, 0, -1), RopeWalk.BAD_VALUE);
        Due.is("price 100001", x.order(0, 1, 1, 1, 0, 100001), RopeWalk.BAD_VALUE);
        Due.is("order wrong: count(2)", x.count(2), 0);
        Due.is("order wrong: count(8)", x.count(8), 0);
    }

    private static void promise8TooMany() {
        RopeWalk x = new RopeWalk();
        for (int i = 0; i < 16; i++) {
            Due.is("order number " + i, x.order(0, 1, 1, 1, 0, i), i);
        }
        Due.is("a 17th order", x.order(0, 1, 1, 1, 0, 0), RopeWalk.TOO_MANY);
        Due.is("a 17th order for nothing", x.order(0, 1, 1, 0, 0, 0), RopeWalk.BAD_VALUE);
        Due.is("a 17th order of fibre 3", x.order(3, 1, 1, 1, 0, 0), RopeWalk.NO_SUCH);
        x.drop(4);
        Due.is("order in the place of one that is gone", x.order(0, 1, 1, 1, 0, 77), 15);
        Due.is("the one before it", x.ofOrder(14, 6), 15);
        Due.is("it", x.ofOrder(15, 6), 77);
    }

    private static void promise9Fill() {
        RopeWalk x = Walks.withPieces(100, 50);
        x.order(0, 300, 30, 6, 0, 700);
        x.order(0, 300, 20, 1, 0, 40);
        Due.is("fill(0)", x.fill(0), 4);
        Due.is("filled: lengths", Walks.lengths(x), "10 20 ");
        Due.is("filled: still wanted", x.ofOrder(0, 3), 2);
        Due.is("filled: sold", x.count(4), 4);
        Due.is("filled: got", x.count(5), 2800);
        Due.is("filled: account sold", x.account(0, 3), 135 * 4);
        Due.is("filled: in pieces", x.account(0, 2), 45 + 90);
        Due.is("filled: ends", x.account(0, 5), 0);
        Due.is("fill(0) again", x.fill(0), RopeWalk.NOT_POSSIBLE);
        Due.is("fill(1)", x.fill(1), 1);
        Due.is("filled whole: count(2)", x.count(2), 1);
        Due.is("a piece without length is gone", Walks.lengths(x), "10 ");
        Due.is("filled whole: ends", x.account(0, 5), 0);
        Due.is("filled whole: got", x.count(5), 2840);
        Due.is("fill: count(8)", x.count(8), 6);
        x.undo();
        Due.is("fill undone", Walks.lengths(x), "10 20 ");
        Due.is("fill undone: got", x.count(5), 2800);
        Due.is("fill undone: count(2)", x.count(2), 2);
        x.undo();
        Due.is("both undone", Walks.lengths(x), "100 50 ");
        Due.is("both undone: wanted", x.ofOrder(0, 3), 6);
        Due.is("both undone: sold", x.count(4), 0);
    }

    private static void promise9ShortestFirst() {
        RopeWalk x = Walks.withPieces(90, 60, 40, 60, 29);
        x.order(0, 1, 30, 1, 0, 1);
        x.fill(0);
        Due.is("the shortest one that is long enough", Walks.lengths(x), "90 60 10 60 29 ");
        x.order(0, 1, 30, 1, 0, 1);
        x.fill(0);
        Due.is("of two the one with the lower number", Walks.lengths(x), "90 30 10 60 29 ");
        x.order(0, 1, 30, 3, 0, 1);
        Due.is("fill goes on", x.fill(0), 3);
        Due.is("and on", Walks.lengths(x), "90 10 29 ");
        Due.is("the order is gone", x.count(2), 0);
    }

    private static void promise9WhatSuits() {
        RopeWalk x = Walks.withPieces(40, 40, 50);
        x.lay(1, 3, 1, 30);
        x.lay(0, 4, 1, 60);
        x.join(0, 1);
        // pieces: 74 of strength 255 with a splice, 50 of 300, 30 of fibre 1, 60 of 400
        x.order(0, 301, 10, 20, 1, 0);
        x.order(0, 300, 10, 20, 1, 0);
        x.order(0, 255, 10, 20, 1, 0);
        x.order(0, 255, 10, 20, 0, 0);
        x.order(0, 1, 50, 20, 1, 0);
        x.order(0, 1, 51, 20, 0, 0);
        x.order(1, 1, 30, 20, 0, 0);
        x.order(1, 1, 31, 20, 0, 0);
        x.order(2, 1, 1, 20, 1, 0);
        x.order(0, 401, 1, 20, 1, 0);
        int[] suiting = {1, 2, 3, 2, 3, 1, 1, 0, 0, 0};
        int[] ropes = {6, 11, 18, 11, 3, 1, 1, -5, -5, -5};
        for (int order = 0; order < 10; order++) {
            Due.is("pieces that suit order " + order, x.ofOrder(order, 7), suiting[order]);
            Due.is("fill(" + order + ")", x.fill(order), ropes[order]);
            if (ropes[order] > 0) {
                x.undo();
            }
        }
    }

    private static void promise9Ends() {
        RopeWalk x = Walks.withPieces(39, 50);
        x.order(0, 1, 30, 1, 0, 5);
        Due.is("fill leaves 9 feet", x.fill(0), 1);
        Due.is("they are an end", Walks.lengths(x), "50 ");
        // 3 * 59 of yarn, of which 30 / 39 are sold
        Due.is("its yarn", x.account(0, 5), 41);
        Due.is("sold", x.account(0, 3), 136);
        x.order(0, 1, 4, 20, 0, 5);
        Due.is("ends are not cut again", x.fill(0), 11);
        Due.is("none is left", x.count(1), 0);
        Due.is("in pieces", x.account(0, 2), 0);
        int all = x.account(0, 1) + x.account(0, 2) + x.account(0, 3) + x.account(0, 4) + x.account(0, 5);
        Due.is("all yarn", all, x.account(0, 0));
    }

    private static void promise9OfOneFoot() {
        RopeWalk x = Walks.withPieces(1);
        x.order(0, 300, 1, 2, 0, 5);
        Due.is("fill with one foot", x.fill(0), 1);
        Due.is("it is gone", x.count(1), 0);
        Due.is("its yarn is sold", x.account(0, 3), 6);
        Due.is("and is no end", x.account(0, 5), 0);
    }

    private static void promise9WrongInputs() {
        RopeWalk x = Walks.withPieces(40);
        x.order(0, 1, 41, 1, 0, 5);
        Due.is("fill(-1)", x.fill(-1), RopeWalk.NO_SUCH);
        Due.is("fill(1)", x.fill(1), RopeWalk.NO_SUCH);
        int changes = x.count(8);
        Due.is("fill(0) without a piece that suits", x.fill(0), RopeWalk.NOT_POSSIBLE);
        Due.is("fill wrong: lengths", Walks.lengths(x), "40 ");
        Due.is("fill wrong: count(8)", x.count(8), changes);
    }

    private static void promise10Drop() {
        RopeWalk x = Walks.withPieces(60);
        x.order(0, 1, 30, 5, 20, 9);
        x.order(1, 2, 31, 20, 21, 8);
        x.order(2, 3, 32, 1, 22, 7);
        x.fill(0);
        Due.is("drop(0), before it is due", x.drop(0), 150);
        Due.is("dropped: count(2)", x.count(2), 2);
        Due.is("dropped: the next is 0", x.ofOrder(0, 6), 8);
        Due.is("dropped: the one after is 1", x.ofOrder(1, 6), 7);
        Due.is("dropped: fines", x.count(6), 150);
        x.set(RopeWalk.FINE, 500);
        Due.is("drop(0) at 500", x.drop(0), 10000);
        Due.is("dropped: fines of both", x.count(6), 10150);
        Due.is("drop(1)", x.drop(1), RopeWalk.NO_SUCH);
        Due.is("drop(-1)", x.drop(-1), RopeWalk.NO_SUCH);
        x.set(RopeWalk.FINE, 0);
        Due.is("drop(0) at 0", x.drop(0), 0);
        Due.is("no order is left", x.count(2), 0);
        Due.is("drop(0) without orders", x.drop(0), RopeWalk.NO_SUCH);
        Due.is("undo of drop", x.undo(), 5);
        Due.is("undo of drop: count(2)", x.count(2), 1);
        Due.is("undo of drop: it", x.ofOrder(0, 6), 7);
    }

    private static void promise11Pass() {
        RopeWalk x = Walks.roomy();
        x.lay(0, 3, 1, 500);
        Due.is("hours left", x.count(3), 20);
        Due.is("pass(1)", x.pass(1), 1);
        Due.is("all hours", x.count(3), 24);
        Due.is("pass(60)", x.pass(60), 61);
        Due.is("today", x.count(0), 61);
        Due.is("pass: count(8)", x.count(8), 6);
        x.undo();
        x.undo();
        Due.is("pass undone: today", x.count(0), 0);
        Due.is("pass undone: hours left", x.count(3), 20);
    }

    private static void promise11Fines() {
        RopeWalk x = new RopeWalk();
        x.order(0, 1, 10, 3, 4, 0);
        x.order(0, 1, 10, 1, 0, 0);
        x.pass(1);
        Due.is("due today is late", x.count(6), 50);
        x.pass(1);
        Due.is("due before, too", x.count(6), 100);
        x.pass(1);
        Due.is("both are late", x.count(6), 300);
        x.set(RopeWalk.FINE, 7);
        x.pass(10);
        Due.is("ten days at 7", x.count(6), 580);
        x.order(0, 1, 10, 10, 6, 0);
        x.pass(5);
        Due.is("two of five days for the third", x.count(6), 580 + 5 * 28 + 2 * 70);
    }

    private static void promise11WrongInputs() {
        RopeWalk x = new RopeWalk();
        Due.is("pass(0)", x.pass(0), RopeWalk.BAD_VALUE);
        Due.is("pass(-1)", x.pass(-1), RopeWalk.BAD_VALUE);
        Due.is("pass(61)", x.pass(61), RopeWalk.BAD_VALUE);
        Due.is("pass(MAX)", x.pass(Integer.MAX_VALUE), RopeWalk.BAD_VALUE);
        for (int i = 1; i < 50; i++) {
            x.pass(60);
        }
        Due.is("pass(59)", x.pass(59), 2999);
        Due.is("pass(2) beyond 3000", x.pass(2), RopeWalk.NOT_POSSIBLE);
        Due.is("pass(1) to 3000", x.pass(1), 3000);
        Due.is("pass(1) beyond 3000", x.pass(1), RopeWalk.NOT_POSSIBLE);
        Due.is("pass(61) beyond 3000", x.pass(61), RopeWalk.BAD_VALUE);
        Due.is("today", x.count(0), 3000);
    }

    private static void promise8Terms() {
        Script.run("terms: 2 * days, plus 1 if splices are allowed", """
            pass(7) = 7; order(0, 1, 1, 1, 0, 0) = 0; ofOrder(0, 5) = 7; ofOrder(0, 4) = 0
            order(0, 1, 1, 1, 1, 0) = 1; ofOrder(1, 5) = 7; ofOrder(1, 4) = 1
            order(0, 1, 1, 1, 199, 0) = 2; ofOrder(2, 5) = 106; ofOrder(2, 4) = 1
            order(0, 1, 1, 1, 200, 0) = 3; ofOrder(3, 5) = 107; ofOrder(3, 4) = 0
            order(0, 1, 1, 1, 201, 0) = 4; ofOrder(4, 5) = 107; ofOrder(4, 4) = 1
            order(0, 1, 1, 1, 202, 0) = BAD_VALUE; order(0, 1, 1, 1, -1, 0) = BAD_VALUE; order(0, 1, 1, 1, MIN, 0) = BAD_VALUE""");
    }

    private static void promise8AtTheEndOfTime() {
        Script.run("an order may be due beyond day 3000", """
            50 * pass(60); order(0, 1, 1, 1, 200, 0) = 0; ofOrder(0, 5) = 3100; order(0, 1, 1, 1, 0, 0) = 1; ofOrder(1, 5) = 3000""");
    }

    private static void promise9NoPieceSuits() {
        Script.run("no piece suits", Walks.withPieces(50, 50), """
            join(0, 1) = 0; lay(1, 3, 1, 200) = 1
            order(0, 1, 94, 1, 0, 0) = 0; order(0, 256, 94, 1, 1, 0) = 1; order(0, 1, 95, 1, 1, 0) = 2; order(2, 1, 1, 1, 1, 0) = 3
            fill(0) = NOT_POSSIBLE; fill(1) = NOT_POSSIBLE; fill(2) = NOT_POSSIBLE; fill(3) = NOT_POSSIBLE; fill(4) = NO_SUCH; fill(-1) = NO_SUCH
            count(4) = 0; count(2) = 4; lengths() = "94 200"; order(0, 255, 94, 1, 1, 0) = 4; fill(4) = 1; lengths() = "200";""");
        Script.run("no piece at all", "order(0, 1, 1, 1, 1, 9) = 0; fill(0) = NOT_POSSIBLE; count(8) = 1; ofOrder(0, 3) = 1");
    }

    private static void promise9OneAndTwenty() {
        Script.run("one rope, twenty ropes", Walks.withPieces(400), """
            order(0, 1, 20, 1, 0, 3) = 0; fill(0) = 1; count(2) = 0; count(5) = 3; piece(0, 3) = 380
            order(0, 1, 20, 20, 0, 3) = 0; fill(0) = 19; ofOrder(0, 3) = 1; count(1) = 0; count(5) = 60; fill(0) = NOT_POSSIBLE
            lay(0, 3, 1, 20) = 0; fill(0) = 1; count(2) = 0; count(4) = 21; fill(0) = NO_SUCH""");
        Script.run("twenty ropes at once", Walks.withPieces(400, 410), """
            order(0, 1, 20, 20, 0, 3) = 0; order(0, 1, 20, 20, 0, 3) = 1; fill(0) = 20; lengths() = "410"; fill(0) = 20; lengths() = "10"
            count(2) = 0; count(4) = 40; account(0, 5) = 0""");
    }

    private static void promise10WhetherItIsDueOrNot() {
        Script.run("FINE for each rope, whether it is due or not", """
            order(0, 1, 1, 20, 0, 9) = 0; order(0, 1, 1, 1, 2, 9) = 1; order(0, 1, 1, 3, 200, 9) = 2; drop(3) = NO_SUCH; drop(-1) = NO_SUCH
            drop(2) = 150; count(6) = 150; pass(1) = 1; count(6) = 1150; drop(1) = 50; count(6) = 1200; drop(0) = 1000
            count(6) = 2200; count(2) = 0; drop(0) = NO_SUCH; count(4) = 0; count(5) = 0; pass(1) = 2; count(6) = 2200""");
    }

    private static void promise11OneAndSixtyDays() {
        Script.run("1 to 60 days", """
            pass(0) = BAD_VALUE; pass(1) = 1; pass(60) = 61; pass(61) = BAD_VALUE; pass(-1) = BAD_VALUE; pass(MAX) = BAD_VALUE
            pass(MIN) = BAD_VALUE; count(0) = 61; count(8) = 2""");
    }

    private static void promise11EachDayByItself() {
        Script.run("days that pass together cost as much as one by one", """
            order(0, 1, 1, 1, 0, 0); order(0, 1, 1, 2, 2, 0); order(0, 1, 1, 4, 118, 0); order(0, 1, 1, 8, 120, 0); order(0, 1, 1, 16, 122, 0)
            finesIn(60) = 9100; pass(60) = 60; count(6) = 9100; undo() = 5; count(6) = 0; 60 * pass(1); count(6) = 9100
            pass(1) = 61; count(6) = 9850; pass(1) = 62; count(6) = 11400""");
    }
}
