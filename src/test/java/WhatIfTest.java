/** Promises 16 to 22: takes, longest, leastYarns, wouldFill, bestSet, fewestJoined, finesIn. */
public final class WhatIfTest {
    public static void main(String[] args) {
        promise16Takes();
        promise16WrongInputs();
        promise17Longest();
        promise17WrongInputs();
        promise18LeastYarns();
        promise18WrongInputs();
        promise19WouldFill();
        promise19WrongInputs();
        promise20BestSet();
        promise20Ties();
        promise20AnOrderThatSpoilsOthers();
        promise20TenOrders();
        promise21FewestJoined();
        promise21WhatIsUsed();
        promise21WrongInputs();
        promise22FinesIn();
        promise22WrongInputs();
        nothingChanges();
        Due.finish("WhatIfTest");
    }

    private static void promise16Takes() {
        RopeWalk x = new RopeWalk();
        int[] all = {112, 146, 1752, 4, 96, 691};
        int[] odd = {114, 149, 4 * 7 * 149, 5, 88, 739};
        int[] most = {2240, 2912, 4 * 40 * 2912, 90, 96, 6912};
        for (int what = 0; what < 6; what++) {
            Due.is("takes(0, 3, 4, 100, " + what + ")", x.takes(0, 3, 4, 100, what), all[what]);
            Due.is("takes(2, 4, 7, 101, " + what + ")", x.takes(2, 4, 7, 101, what), odd[what]);
            Due.is("takes(1, 4, 40, 2000, " + what + ")", x.takes(1, 4, 40, 2000, what), most[what]);
        }
        x.set(RopeWalk.TWIST, 60);
        Due.is("quality at a twist of 60", x.takes(0, 3, 4, 100, 4), 44);
        Due.is("quality, 40 at least", x.takes(2, 3, 4, 100, 4), 40);
        Due.is("strength at a twist of 60", x.takes(0, 3, 4, 100, 5), 316);
        Due.is("one foot", x.takes(0, 3, 1, 1, 0), 2);
        Due.is("one foot: yarns", x.takes(0, 3, 1, 1, 1), 4);
        Due.is("one foot: hours", x.takes(0, 3, 1, 1, 3), 1);
        x.set(RopeWalk.LAY, 1);
        Due.is("1.01 rounded up", x.takes(0, 3, 1, 1, 0), 2);
        x.set(RopeWalk.LAY, 0);
        Due.is("1.00 rounded up", x.takes(0, 3, 1, 1, 0), 1);
        Due.is("201 of 100 feet for each hour", x.takes(0, 3, 1, 67, 3), 3);
        Due.is("198 of 100 feet for each hour", x.takes(0, 3, 1, 66, 3), 2);
    }

    private static void promise16WrongInputs() {
        RopeWalk x = new RopeWalk();
        Due.is("takes of fibre 3", x.takes(3, 0, 0, 0, 9), RopeWalk.NO_SUCH);
        Due.is("takes of fibre -1", x.takes(-1, 3, 4, 100, 0), RopeWalk.NO_SUCH);
        Due.is("takes of 2 strands", x.takes(0, 2, 4, 100, 0), RopeWalk.BAD_VALUE);
        Due.is("takes of 5 strands", x.takes(0, 5, 4, 100, 0), RopeWalk.BAD_VALUE);
        Due.is("takes of 0 yarns", x.takes(0, 3, 0, 100, 0), RopeWalk.BAD_VALUE);
        Due.is("takes of 41 yarns", x.takes(0, 3, 41, 100, 0), RopeWalk.BAD_VALUE);
        Due.is("takes of 0 feet", x.takes(0, 3, 4, 0, 0), RopeWalk.BAD_VALUE);
        Due.is("takes of 2001 feet", x.takes(0, 3, 4, 2001, 0), RopeWalk.BAD_VALUE);
        Due.is("takes, what -1", x.takes(0, 3, 4, 100, -1), RopeWalk.BAD_VALUE);
        Due.is("takes, what 6", x.takes(0, 3, 4, 100, 6), RopeWalk.BAD_VALUE);
    }

    private static void promise17Longest() {
        RopeWalk x = new RopeWalk();
        Due.is("longest without yarn", x.longest(0, 3, 4), RopeWalk.NONE);
        x.spin(0, 60000);
        Due.is("longest by the hours", x.longest(0, 3, 4), 357);
        Due.is("it can be laid", x.lay(0, 3, 4, 357), 0);
        Due.is("longest without hours", x.longest(0, 3, 4), RopeWalk.NONE);
        x.undo();
        Due.is("a longer one can't", x.lay(0, 3, 4, 358), RopeWalk.NOT_POSSIBLE);
        x.set(RopeWalk.SPEED, 500);
        Due.is("longest by the walk", x.longest(0, 3, 4), 892);
        Due.is("longest by the yarn", x.longest(0, 4, 40), 257);
        Due.is("all the yarn", x.takes(0, 4, 40, 257, 2), 60000);
        x.set(RopeWalk.LAY, 0);
        x.set(RopeWalk.WALK, 2000);
        x.set(RopeWalk.HOURS, 24);
        Due.is("longest of all", x.longest(0, 3, 1), 2000);
        x = Walks.plain();
        for (int i = 0; i < 24; i++) {
            x.lay(0, 3, 1, 1);
            x.pass(1);
        }
        Due.is("longest with 24 pieces", x.longest(0, 3, 1), 2000);
        x = new RopeWalk();
        x.spin(0, 12);
        Due.is("longest of two feet", x.longest(0, 3, 1), 2);
        x.set(RopeWalk.LAY, 40);
        x.set(RopeWalk.TWIST, 60);
        Due.is("longest of a foot", x.longest(0, 3, 1), 1);
        Due.is("not a foot", x.longest(0, 4, 1), RopeWalk.NONE);
    }

    private static void promise17WrongInputs() {
        RopeWalk x = Walks.plain();
        Due.is("longest(3, 0, 0)", x.longest(3, 0, 0), RopeWalk.NO_SUCH);
        Due.is("longest(-1, 3, 4)", x.longest(-1, 3, 4), RopeWalk.NO_SUCH);
        Due.is("longest(0, 2, 4)", x.longest(0, 2, 4), RopeWalk.BAD_VALUE);
        Due.is("longest(0, 5, 4)", x.longest(0, 5, 4), RopeWalk.BAD_VALUE);
        Due.is("longest(0, 3, 0)", x.longest(0, 3, 0), RopeWalk.BAD_VALUE);
        Due.is("longest(0, 3, 41)", x.longest(0, 3, 41), RopeWalk.BAD_VALUE);
    }

    private static void promise18LeastYarns() {
        RopeWalk x = new RopeWalk();
        Due.is("leastYarns(0, 3, 691)", x.leastYarns(0, 3, 691), 4);
        Due.is("leastYarns(0, 3, 692)", x.leastYarns(0, 3, 692), 5);
        Due.is("leastYarns(0, 3, 1)", x.leastYarns(0, 3, 1), 1);
        Due.is("leastYarns(0, 4, 9216)", x.leastYarns(0, 4, 9216), 40);
        Due.is("leastYarns(0, 4, 9217)", x.leastYarns(0, 4, 9217), RopeWalk.NONE);
        Due.is("leastYarns(0, 3, 50000)", x.leastYarns(0, 3, 50000), RopeWalk.NONE);
        x.set(RopeWalk.TWIST, 32);
        Due.is("leastYarns at the best twist", x.leastYarns(0, 3, 720), 4);
        x.fibre(0, 200, 32);
        Due.is("leastYarns of the strongest", x.leastYarns(0, 4, 32000), 40);
        Due.is("leastYarns of none", x.leastYarns(0, 4, 32001), RopeWalk.NONE);
        x.fibre(0, 1, 60);
        Due.is("leastYarns of weak yarn", x.leastYarns(0, 3, 1), 1);
        x.set(RopeWalk.TWIST, 20);
        Due.is("leastYarns of weaker yarn", x.leastYarns(0, 3, 2), 2);
    }

    private static void promise18WrongInputs() {
        RopeWalk x = new RopeWalk();
        Due.is("leastYarns(3, 0, 0)", x.leastYarns(3, 0, 0), RopeWalk.NO_SUCH);
        Due.is("leastYarns(-1, 3, 1)", x.leastYarns(-1, 3, 1), RopeWalk.NO_SUCH);
        Due.is("leastYarns(0, 2, 1)", x.leastYarns(0, 2, 1), RopeWalk.BAD_VALUE);
        Due.is("leastYarns(0, 5, 1)", x.leastYarns(0, 5, 1), RopeWalk.BAD_VALUE);
        Due.is("leastYarns(0, 3, 0)", x.leastYarns(0, 3, 0), RopeWalk.BAD_VALUE);
        Due.is("leastYarns(0, 3, 50001)", x.leastYarns(0, 3, 50001), RopeWalk.BAD_VALUE);
    }

    private static void promise19WouldFill() {
        RopeWalk x = Walks.withPieces(100, 39, 50, 20);
        x.order(0, 1, 30, 3, 0, 5);
        x.order(0, 1, 101, 3, 0, 5);
        x.order(0, 1, 10, 20, 0, 5);
        String before = Walks.seen(x);
        // 9 of the 39 feet are an end both times, with more yarn when they are cut in three
        int[][] all = {{3, 41, 3}, {0, 0, 4}, {20, 42, 0}};
        for (int order = 0; order < 3; order++) {
            for (int what = 0; what < 3; what++) {
                Due.is("wouldFill(" + order + ", " + what + ")", x.wouldFill(order, what), all[order][what]);
            }
        }
        Due.is("wouldFill changes nothing", Walks.seen(x), before);
        x.fill(0);
        Due.is("filled: ends", x.account(0, 5), 41);
        Due.is("filled: pieces", x.count(1), 3);
        Due.is("behind an end there are new ones alone", x.wouldFill(1, 1), 0);
    }

    private static void promise19WrongInputs() {
        RopeWalk x = Walks.withPieces(100);
        x.order(0, 1, 30, 3, 0, 5);
        Due.is("wouldFill(1, 0)", x.wouldFill(1, 0), RopeWalk.NO_SUCH);
        Due.is("wouldFill(-1, 3)", x.wouldFill(-1, 3), RopeWalk.NO_SUCH);
        Due.is("wouldFill(0, -1)", x.wouldFill(0, -1), RopeWalk.BAD_VALUE);
        Due.is("wouldFill(0, 3)", x.wouldFill(0, 3), RopeWalk.BAD_VALUE);
    }

    private static void isBest(String of, RopeWalk x, int mask, int sum) {
        Due.is("bestSet(0) " + of, x.bestSet(0), mask);
        Due.is("bestSet(1) " + of, x.bestSet(1), sum);
    }

    private static void promise20BestSet() {
        RopeWalk x = Walks.withPieces(100);
        isBest("without orders", x, 0, 0);
        x.order(0, 1, 101, 1, 0, 900);
        isBest("with an order that nothing suits", x, 0, 0);
        x.order(0, 1, 60, 1, 0, 500);
        isBest("with one", x, 2, 500);
        x.order(0, 1, 50, 2, 0, 251);
        isBest("with a better one", x, 4, 502);
        x.order(0, 1, 40, 1, 0, 3);
        isBest("with one that fits beside", x, 10, 503);
        Due.is("bestSet(-1)", x.bestSet(-1), RopeWalk.BAD_VALUE);
        Due.is("bestSet(2)", x.bestSet(2), RopeWalk.BAD_VALUE);
    }

    private static void promise20Ties() {
        RopeWalk x = Walks.withPieces(100);
        x.order(0, 1, 50, 1, 0, 200);
        x.order(0, 1, 50, 1, 0, 200);
        x.order(0, 1, 100, 1, 0, 400);
        isBest("of several the one with the fewest orders", x, 4, 400);
        x.order(0, 1, 100, 1, 0, 400);
        isBest("of these the lowest mask", x, 4, 400);
        x.drop(3);
        x.drop(2);
        x.order(0, 1, 50, 1, 0, 200);
        isBest("the lowest mask of two orders", x, 3, 400);
        x = Walks.withPieces(100);
        x.order(0, 1, 50, 1, 0, 0);
        isBest("with an order for nothing", x, 0, 0);
        x.order(0, 1, 50, 1, 0, 7);
        isBest("with another", x, 2, 7);
        x = Walks.withPieces(100);
        x.order(0, 1, 30, 1, 0, 30);
        x.order(0, 1, 90, 1, 0, 90);
        x.order(0, 1, 60, 1, 0, 60);
        // 30 and 60 together, or 90 alone
        isBest("of one order or two", x, 2, 90);
        x = Walks.withPieces(100);
        x.order(0, 1, 100, 1, 0, 400);
        x.order(0, 1, 50, 1, 0, 200);
        x.order(0, 1, 50, 1, 0, 200);
        isBest("of one low order or two", x, 1, 400);
        x = Walks.withPieces(100);
        x.order(0, 1, 50, 1, 0, 300);
        x.order(0, 1, 50, 1, 0, 200);
        x.order(0, 1, 50, 1, 0, 200);
        x.order(0, 1, 50, 1, 0, 100);
        isBest("the dearest two, of several the lower ones", x, 3, 500);
        x = Walks.withPieces(100);
        x.order(0, 1, 60, 1, 0, 300);
        x.order(0, 1, 50, 1, 0, 200);
        x.order(0, 1, 50, 1, 0, 200);
        x.order(0, 1, 40, 1, 0, 100);
        // the first with the last, or the two between them: 9 or 6
        isBest("the lowest mask, not the lowest order", x, 6, 400);
    }

    /** Each order is filled as far as it goes, the lower ones first, so that a lower one can take from a higher. */
    private static void promise20AnOrderThatSpoilsOthers() {
        RopeWalk x = Walks.withPieces(60, 100);
        x.order(0, 1, 20, 20, 0, 10);
        x.order(0, 1, 100, 1, 0, 70);
        isBest("one that takes all, or the other", x, 1, 80);
        x.drop(1);
        x.order(0, 1, 100, 1, 0, 81);
        isBest("the other, or one that takes all", x, 2, 81);
        x.drop(0);
        x.order(0, 1, 20, 20, 0, 10);
        isBest("both, the longer one first", x, 3, 111);
        x = Walks.withPieces(100, 60);
        x.order(0, 1, 55, 1, 0, 0);
        x.order(0, 1, 60, 1, 0, 50);
        x.order(0, 1, 45, 1, 0, 60);
        // the first leaves 5 feet of the 60, and of the 100 either 40 or 55
        isBest("without the one for nothing", x, 6, 110);
    }

    private static void promise20TenOrders() {
        RopeWalk x = Walks.withPieces(100, 100);
        for (int i = 0; i < 12; i++) {
            x.order(0, 1, 20, 1, 0, i == 11 ? 50000 : 100 + i);
        }
        isBest("of twelve orders, the first ten", x, 1023, 1045);
        x.drop(0);
        isBest("of eleven orders, the first ten", x, 1023, 1055);
        x.drop(0);
        isBest("of ten orders", x, 1023, 50000 + 954);
        x.undo();
        x.undo();
        x.set(RopeWalk.TEST, 30);
        x.set(RopeWalk.SHORTEST, 1);
        x.test(0);
        x.test(0);
        // two of 5 and 5 ropes each are left: 2 and 5
        isBest("of twelve orders, room for seven", x, 0x3f8, 742);
    }

    private static void promise21FewestJoined() {
        RopeWalk x = Walks.withPieces(50, 20, 100, 30);
        Due.is("the piece alone", x.fewestJoined(0, 50), 1);
        Due.is("with the longest other", x.fewestJoined(0, 51), 2);
        Due.is("as long as both", x.fewestJoined(0, 144), 2);
        Due.is("longer than both", x.fewestJoined(0, 145), 3);
        Due.is("as long as three", x.fewestJoined(0, 168), 3);
        Due.is("all of them", x.fewestJoined(0, 182), 4);
        Due.is("there are not enough", x.fewestJoined(0, 183), RopeWalk.NONE);
        Due.is("from another piece", x.fewestJoined(1, 114), 2);
        Due.is("the piece has to be in it", x.fewestJoined(1, 115), 3);
        Due.is("from the longest", x.fewestJoined(2, 144), 2);
        Due.is("one foot", x.fewestJoined(1, 1), 1);
        x.join(0, 2);
        Due.is("with a joined one", x.fewestJoined(1, 158), 2);
        x.join(0, 2);
        Due.is("those that are gone are not used", x.fewestJoined(0, 183), RopeWalk.NONE);
        x.join(0, 1);
        Due.is("one piece alone", x.fewestJoined(0, 183), RopeWalk.NONE);
        x = Walks.plain();
        x.set(RopeWalk.OVERLAP, 1);
        for (int i = 0; i < 24; i++) {
            x.lay(0, 3, 1, 11 + i);
        }
        Due.is("with 24 pieces", x.fewestJoined(0, 517), 24);
        Due.is("more than 24 pieces reach", x.fewestJoined(0, 518), RopeWalk.NONE);
    }

    private static void promise21WhatIsUsed() {
        RopeWalk x = Walks.withPieces(6, 7, 40, 5);
        x.lay(1, 3, 1, 100);
        x.lay(0, 4, 1, 100);
        x.lay(0, 3, 2, 100);
        Due.is("one of OVERLAP alone", x.fewestJoined(0, 6), 1);
        Due.is("one of OVERLAP is not joined", x.fewestJoined(0, 7), RopeWalk.NONE);
        Due.is("one just longer", x.fewestJoined(1, 8), 2);
        Due.is("one just longer, a foot more", x.fewestJoined(2, 41), 2);
        Due.is("others are not of its kind", x.fewestJoined(2, 42), RopeWalk.NONE);
        Due.is("the one of 4 strands", x.fewestJoined(5, 101), RopeWalk.NONE);
        x.set(RopeWalk.OVERLAP, 30);
        Due.is("none but itself", x.fewestJoined(2, 41), RopeWalk.NONE);
        x.set(RopeWalk.OVERLAP, 1);
        Due.is("all of them", x.fewestJoined(3, 55), 4);
        Due.is("all but one", x.fewestJoined(3, 50), 3);
    }

    private static void promise21WrongInputs() {
        RopeWalk x = Walks.withPieces(50, 20);
        Due.is("fewestJoined(2, 10)", x.fewestJoined(2, 10), RopeWalk.NO_SUCH);
        Due.is("fewestJoined(-1, 0)", x.fewestJoined(-1, 0), RopeWalk.NO_SUCH);
        Due.is("fewestJoined(0, 0)", x.fewestJoined(0, 0), RopeWalk.BAD_VALUE);
        Due.is("fewestJoined(0, 5001)", x.fewestJoined(0, 5001), RopeWalk.BAD_VALUE);
        Due.is("fewestJoined(0, 5000)", x.fewestJoined(0, 5000), RopeWalk.NONE);
    }

    private static void promise22FinesIn() {
        RopeWalk x = new RopeWalk();
        Due.is("finesIn without orders", x.finesIn(200), 0);
        x.order(0, 1, 10, 2, 4, 0);
        x.order(0, 1, 10, 3, 0, 0);
        Due.is("finesIn(1)", x.finesIn(1), 150);
        Due.is("finesIn(2)", x.finesIn(2), 300);
        Due.is("finesIn(3)", x.finesIn(3), 550);
        Due.is("finesIn(200)", x.finesIn(200), 50 * (3 * 200 + 2 * 198));
        x.pass(1);
        Due.is("finesIn(1) tomorrow", x.finesIn(1), 150);
        Due.is("finesIn(2) tomorrow", x.finesIn(2), 400);
        x.pass(9);
        x.set(RopeWalk.FINE, 3);
        Due.is("finesIn(10) later", x.finesIn(10), 150);
        x.drop(0);
        Due.is("finesIn(10) without the first", x.finesIn(10), 90);
        x.drop(0);
        Due.is("finesIn(10) without both", x.finesIn(10), 0);
        for (int i = 0; i < 16; i++) {
            x.order(0, 1, 10, 1, 2 * i, 0);
        }
        Due.is("finesIn(20) with 16 orders", x.finesIn(20), 3 * (20 + 5) * 16 / 2);
        for (int i = 0; i < 6; i++) {
            x.pass(20);
        }
        Due.is("finesIn(1) with 16 orders", x.finesIn(1), 48);
        for (int i = 0; i < 13; i++) {
            x.drop(3);
        }
        Due.is("finesIn(10) with three", x.finesIn(10), 90);
        x.drop(0);
        x.order(0, 1, 10, 3, 0, 0);
        Due.is("finesIn(10) with five ropes", x.finesIn(10), 150);
        int before = x.count(6);
        x.pass(10);
        Due.is("they are paid", x.count(6) - before, 150);
        for (int i = 0; i < 47; i++) {
            x.pass(60);
        }
        Due.is("today", x.count(0), 2960);
        Due.is("finesIn(200) beyond 3000", x.finesIn(200), 3000);
    }

    private static void promise22WrongInputs() {
        RopeWalk x = new RopeWalk();
        x.order(0, 1, 10, 2, 0, 0);
        Due.is("finesIn(0)", x.finesIn(0), RopeWalk.BAD_VALUE);
        Due.is("finesIn(-1)", x.finesIn(-1), RopeWalk.BAD_VALUE);
        Due.is("finesIn(201)", x.finesIn(201), RopeWalk.BAD_VALUE);
        Due.is("finesIn(200)", x.finesIn(200), 20000);
    }

    private static void nothingChanges() {
        RopeWalk x = Walks.withPieces(50, 20, 100, 39);
        x.order(0, 1, 30, 2, 4, 8);
        x.order(0, 1, 9, 20, 1, 9);
        String before = Walks.seen(x);
        int changes = x.count(8);
        x.takes(0, 3, 1, 10, 2);
        x.longest(0, 3, 1);
        x.leastYarns(0, 3, 10);
        x.wouldFill(0, 0);
        x.wouldFill(1, 1);
        x.bestSet(0);
        x.bestSet(1);
        x.fewestJoined(0, 100);
        x.finesIn(100);
        Due.is("what if changes nothing", Walks.seen(x), before);
        Due.is("what if records nothing", x.count(8), changes);
    }
}
