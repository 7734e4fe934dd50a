/** Promises 16 to 22: takes, longest, leastYarns, wouldFill, bestSet, fewestJoined, finesIn. */
public final class WhatIfTest {
    public static void main(String[] args) {
        promise16Takes();
        promise16WrongInputs();
        promise17Longest();
        promise17WrongInputs();
        promise18LeastYarns();
        promise18WrongInputs();
        promise19WouldFill();
        promise19WrongInputs();
        promise20BestSet();
        promise20Ties();
        promise20AnOrderThatSpoilsOthers();
        promise20TenOrders();
        promise21FewestJoined();
        promise21WhatIsUsed();
        promise21WrongInputs();
        promise22FinesIn();
        promise22WrongInputs();
        nothingChanges();
        promise16WhateverThereIs();
        promise17ByEachBound();
        promise17AtTheEnds();
        promise18EachStrength();
        promise18WhateverThereIs();
        promise19AsFillDoes();
        promise19NoneAndAll();
        promise20AsFarAsItGoes();
        promise20NothingIsGot();
        promise21AtTheEnds();
        promise21OfOneKind();
        promise22FirstAndLastDay();
        promise22AsPassPays();
        promise20EndsAndSplices();
        Due.finish("WhatIfTest");
    }

    private static void promise16Takes() {
        RopeWalk x = new RopeWalk();
        int[] all = {112, 146, 1752, 4, 96, 691};
        int[] odd = {114, 149, 4 * 7 * 149, 5, 88, 739};
        int[] most = {2240, 2912, 4 * 40 * 2912, 90, 96, 6912};
        for (int what = 0; what < 6; what++) {
            Due.is("takes(0, 3, 4, 100, " + what + ")", x.takes(0, 3, 4, 100, what), all[what]);
            Due.is("takes(2, 4, 7, 101, " + what + ")", x.takes(2, 4, 7, 101, what), odd[what]);
            Due.is("takes(1, 4, 40, 2000, " + what + ")", x.takes(1, 4, 40, 2000, what), most[what]);
        }
        x.set(RopeWalk.TWIST, 60);
        Due.is("quality at a twist of 60", x.takes(0, 3, 4, 100, 4), 44);
        Due.is("quality, 40 at least", x.takes(2, 3, 4, 100, 4), 40);
        Due.is("strength at a twist of 60", x.takes(0, 3, 4, 100, 5), 316);
        Due.is("one foot", x.takes(0, 3, 1, 1, 0), 2);
        Due.is("one foot: yarns", x.takes(0, 3, 1, 1, 1), 4);
        Due.is("one foot: hours", x.takes(0, 3, 1, 1, 3), 1);
        x.set(RopeWalk.LAY, 1);
        Due.is("1.01 rounded up", x.takes(0, 3, 1, 1, 0), 2);
        x.set(RopeWalk.LAY, 0);
        Due.is("1.00 rounded up", x.takes(0, 3, 1, 1, 0), 1);
        Due.is("201 of 100 feet for each hour", x.takes(0, 3, 1, 67, 3), 3);
        Due.is("198 of 100 feet for each hour", x.takes(0, 3, 1, 66, 3), 2);
    }

    private static void promise16WrongInputs() {
        RopeWalk x = new RopeWalk();
        Due.is("takes of fibre 3", x.takes(3, 0, 0, 0, 9), RopeWalk.NO_SUCH);
        Due.is("takes of fibre -1", x.takes(-1, 3, 4, 100, 0), RopeWalk.NO_SUCH);
        Due.is("takes of 2 strands", x.takes(0, 2, 4, 100, 0), RopeWalk.BAD_VALUE);
        Due.is("takes of 5 strands", x.takes(0, 5, 4, 100, 0), RopeWalk.BAD_VALUE);
        Due.is("takes of 0 yarns", x.takes(0, 3, 0, 100, 0), RopeWalk.BAD_VALUE);
        Due.is("takes of 41 yarns", x.takes(0, 3, 41, 100, 0), RopeWalk.BAD_VALUE);
        Due.is("takes of 0 feet", x.takes(0, 3, 4, 0, 0), RopeWalk.BAD_VALUE);
        Due.is("takes of 2001 feet", x.takes(0, 3, 4, 2001, 0), RopeWalk.BAD_VALUE);
        Due.is("takes, what -1", x.takes(0, 3, 4, 100, -1), RopeWalk.BAD_VALUE);
        Due.is("takes, what 6", x.takes(0, 3, 4, 100, 6), RopeWalk.BAD_VALUE);
    }

    private static void promise17Longest() {
        RopeWalk x = new RopeWalk();
        Due.is("longest without yarn", x.longest(0, 3, 4), RopeWalk.NONE);
        x.spin(0, 60000);
        Due.is("longest by the hours", x.longest(0, 3, 4), 357);
        Due.is("it can be laid", x.lay(0, 3, 4, 357), 0);
        Due.is("longest without hours", x.longest(0, 3, 4), RopeWalk.NONE);
        x.undo();
        Due.is("a longer one can't", x.lay(0, 3, 4, 358), RopeWalk.NOT_POSSIBLE);
        x.set(RopeWalk.SPEED, 500);
        Due.is("longest by the walk", x.longest(0, 3, 4), 892);
        Due.is("longest by the yarn", x.longest(0, 4, 40), 257);
        Due.is("all the yarn", x.takes(0, 4, 40, 257, 2), 60000);
        x.set(RopeWalk.LAY, 0);
        x.set(RopeWalk.WALK, 2000);
        x.set(RopeWalk.HOURS, 24);
        Due.is("longest of all", x.longest(0, 3, 1), 2000);
        x = Walks.plain();
        for (int i = 0; i < 24; i++) {
            x.lay(0, 3, 1, 1);
            x.pass(1);
        }
        Due.is("longest with 24 pieces", x.longest(0, 3, 1), 2000);
        x = new RopeWalk();
        x.spin(0, 12);
        Due.is("longest of two feet", x.longest(0, 3, 1), 2);
        x.set(RopeWalk.LAY, 40);
        x.set(RopeWalk.TWIST, 60);
        Due.is("longest of a foot", x.longest(0, 3, 1), 1);
        Due.is("not a foot", x.longest(0, 4, 1), RopeWalk.NONE);
    }

    private static void promise17WrongInputs() {
        RopeWalk x = Walks.plain();
        Due.is("longest(3, 0, 0)", x.longest(3, 0, 0), RopeWalk.NO_SUCH);
        Due.is("longest(-1, 3, 4)", x.longest(-1, 3, 4), RopeWalk.NO_SUCH);
        Due.is("longest(0, 2, 4)", x.longest(0, 2, 4), RopeWalk.BAD_VALUE);
        Due.is("longest(0, 5, 4)", x.longest(0, 5, 4), RopeWalk.BAD_VALUE);
        Due.is("longest(0, 3, 0)", x.longest(0, 3, 0), RopeWalk.BAD_VALUE);
        Due.is("longest(0, 3, 41)", x.longest(0, 3, 41), RopeWalk.BAD_VALUE);
    }

    private static void promise18LeastYarns() {
        RopeWalk x = new RopeWalk();
        Due.is("leastYarns(0, 3, 691)", x.leastYarns(0, 3, 691), 4);
        Due.is("leastYarns(0, 3, 692)", x.leastYarns(0, 3, 692), 5);
        Due.is("leastYarns(0, 3, 1)", x.leastYarns(0, 3, 1), 1);
        Due.is("leastYarns(0, 4, 9216)", x.leastYarns(0, 4, 9216), 40);
        Due.is("leastYarns(0, 4, 9217)", x.leastYarns(0, 4, 9217), RopeWalk.NONE);
        Due.is("leastYarns(0, 3, 50000)", x.leastYarns(0, 3, 50000), RopeWalk.NONE);
        x.set(RopeWalk.TWIST, 32);
        Due.is("leastYarns at the best twist", x.leastYarns(0, 3, 720), 4);
        x.fibre(0, 200, 32);
        Due.is("leastYarns of the strongest", x.leastYarns(0, 4, 32000), 40);
        Due.is("leastYarns of none", x.leastYarns(0, 4, 32001), RopeWalk.NONE);
        x.fibre(0, 1, 60);
        Due.is("leastYarns of weak yarn", x.leastYarns(0, 3, 1), 1);
        x.set(RopeWalk.TWIST, 20);
        Due.is("leastYarns of weaker yarn", x.leastYarns(0, 3, 2), 2);
    }

    private static void promise18WrongInputs() {
        RopeWalk x = new RopeWalk();
        Due.is("leastYarns(3, 0, 0)", x.leastYarns(3, 0, 0), RopeWalk.NO_SUCH);
        Due.is("leastYarns(-1, 3, 1)", x.leastYarns(-1, 3, 1), RopeWalk.NO_SUCH);
        Due.is("leastYarns(0, 2, 1)", x.leastYarns(0, 2, 1), RopeWalk.BAD_VALUE);
        Due.is("leastYarns(0, 5, 1)", x.leastYarns(0, 5, 1), RopeWalk.BAD_VALUE);
        Due.is("leastYarns(0, 3, 0)", x.leastYarns(0, 3, 0), RopeWalk.BAD_VALUE);
        Due.is("leastYarns(0, 3, 50001)", x.leastYarns(0, 3, 50001), RopeWalk.BAD_VALUE);
    }

    private static void promise19WouldFill() {
        RopeWalk x = Walks.withPieces(100, 39, 50, 20);
        x.order(0, 1, 30, 3, 0, 5);
        x.order(0, 1, 101, 3, 0, 5);
        x.order(0, 1, 10, 20, 0, 5);
        String before = Walks.seen(x);
        // 9 of the 39 feet are an end both times, with more yarn when they are cut in three
        int[][] all = {{3, 41, 3}, {0, 0, 4}, {20, 42, 0}};
        for (int order = 0; order < 3; order++) {
            for (int what = 0; what < 3; what++) {
                Due.is("wouldFill(" + order + ", " + what + ")", x.wouldFill(order, what), all[order][what]);
            }
        }
        Due.is("wouldFill changes nothing", Walks.seen(x), before);
        x.fill(0);
        Due.is("filled: ends", x.account(0, 5), 41);
        Due.is("filled: pieces", x.count(1), 3);
        Due.is("behind an end there are new ones alone", x.wouldFill(1, 1), 0);
    }

    private static void promise19WrongInputs() {
        RopeWalk x = Walks.withPieces(100);
        x.order(0, 1, 30, 3, 0, 5);
        Due.is("wouldFill(1, 0)", x.wouldFill(1, 0), RopeWalk.NO_SUCH);
        Due.is("wouldFill(-1, 3)", x.wouldFill(-1, 3), RopeWalk.NO_SUCH);
        Due.is("wouldFill(0, -1)", x.wouldFill(0, -1), RopeWalk.BAD_VALUE);
        Due.is("wouldFill(0, 3)", x.wouldFill(0, 3), RopeWalk.BAD_VALUE);
    }

    private static void isBest(String of, RopeWalk x, int mask, int sum) {
        Due.is("bestSet(0) " + of, x.bestSet(0), mask);
        Due.is("bestSet(1) " + of, x.bestSet(1), sum);
    }

    private static void promise20BestSet() {
        RopeWalk x = Walks.withPieces(100);
        isBest("without orders", x, 0, 0);
        x.order(0, 1, 101, 1, 0, 900);
        isBest("with an order that nothing suits", x, 0, 0);
        x.order(0, 1, 60, 1, 0, 500);
        isBest("with one", x, 2, 500);
        x.order(0, 1, 50, 2, 0, 251);
        isBest("with a better one", x, 4, 502);
        x.order(0, 1, 40, 1, 0, 3);
        isBest("with one that fits beside", x, 10, 503);
        Due.is("bestSet(-1)", x.bestSet(-1), RopeWalk.BAD_VALUE);
        Due.is("bestSet(2)", x.bestSet(2), RopeWalk.BAD_VALUE);
    }

    private static void promise20Ties() {
        RopeWalk x = Walks.withPieces(100);
        x.order(0, 1, 50, 1, 0, 200);
        x.order(0, 1, 50, 1, 0, 200);
        x.order(0, 1, 100, 1, 0, 400);
        isBest("of several the one with the fewest orders", x, 4, 400);
        x.order(0, 1, 100, 1, 0, 400);
        isBest("of these the lowest mask", x, 4, 400);
        x.drop(3);
        x.drop(2);
        x.order(0, 1, 50, 1, 0, 200);
        isBest("the lowest mask of two orders", x, 3, 400);
        x = Walks.withPieces(100);
        x.order(0, 1, 50, 1, 0, 0);
        isBest("with an order for nothing", x, 0, 0);
        x.order(0, 1, 50, 1, 0, 7);
        isBest("with another", x, 2, 7);
        x = Walks.withPieces(100);
        x.order(0, 1, 30, 1, 0, 30);
        x.order(0, 1, 90, 1, 0, 90);
        x.order(0, 1, 60, 1, 0, 60);
        // 30 and 60 together, or 90 alone
        isBest("of one order or two", x, 2, 90);
        x = Walks.withPieces(100);
        x.order(0, 1, 100, 1, 0, 400);
        x.order(0, 1, 50, 1, 0, 200);
        x.order(0, 1, 50, 1, 0, 200);
        isBest("of one low order or two", x, 1, 400);
        x = Walks.withPieces(100);
        x.order(0, 1, 50, 1, 0, 300);
        x.order(0, 1, 50, 1, 0, 200);
        x.order(0, 1, 50, 1, 0, 200);
        x.order(0, 1, 50, 1, 0, 100);
        isBest("the dearest two, of several the lower ones", x, 3, 500);
        x = Walks.withPieces(100);
        x.order(0, 1, 60, 1, 0, 300);
        x.order(0, 1, 50, 1, 0, 200);
        x.order(0, 1, 50, 1, 0, 200);
        x.order(0, 1, 40, 1, 0, 100);
        // the first with the last, or the two between them: 9 or 6
        isBest("the lowest mask, not the lowest order", x, 6, 400);
    }

    /** Each order is filled as far as it goes, the lower ones first, so that a lower one can take from a higher. */
    private static void promise20AnOrderThatSpoilsOthers() {
        RopeWalk x = Walks.withPieces(60, 100);
        x.order(0, 1, 20, 20, 0, 10);
        x.order(0, 1, 100, 1, 0, 70);
        isBest("one that takes all, or the other", x, 1, 80);
        x.drop(1);
        x.order(0, 1, 100, 1, 0, 81);
        isBest("the other, or one that takes all", x, 2, 81);
        x.drop(0);
        x.order(0, 1, 20, 20, 0, 10);
        isBest("both, the longer one first", x, 3, 111);
        x = Walks.withPieces(100, 60);
        x.order(0, 1, 55, 1, 0, 0);
        x.order(0, 1, 60, 1, 0, 50);
        x.order(0, 1, 45, 1, 0, 60);
        // the first leaves 5 feet of the 60, and of the 100 either 40 or 55
        isBest("without the one for nothing", x, 6, 110);
    }

    private static void promise20TenOrders() {
        RopeWalk x = Walks.withPieces(100, 100);
        for (int i = 0; i < 12; i++) {
            x.order(0, 1, 20, 1, 0, i == 11 ? 50000 : 100 + i);
        }
        isBest("of twelve orders, the first ten", x, 1023, 1045);
        x.drop(0);
        isBest("of eleven orders, the first ten", x, 1023, 1055);
        x.drop(0);
        isBest("of ten orders", x, 1023, 50000 + 954);
        x.undo();
        x.undo();
        x.set(RopeWalk.TEST, 30);
        x.set(RopeWalk.SHORTEST, 1);
        x.test(0);
        x.test(0);
        // two of 5 and 5 ropes each are left: 2 and 5
        isBest("of twelve orders, room for seven", x, 0x3f8, 742);
    }

    private static void promise21FewestJoined() {
        RopeWalk x = Walks.withPieces(50, 20, 100, 30);
        Due.is("the piece alone", x.fewestJoined(0, 50), 1);
        Due.is("with the longest other", x.fewestJoined(0, 51), 2);
        Due.is("as long as both", x.fewestJoined(0, 144), 2);
        Due.is("longer than both", x.fewestJoined(0, 145), 3);
        Due.is("as long as three", x.fewestJoined(0, 168), 3);
        Due.is("all of them", x.fewestJoined(0, 182), 4);
        Due.is("there are not enough", x.fewestJoined(0, 183), RopeWalk.NONE);
        Due.is("from another piece", x.fewestJoined(1, 114), 2);
        Due.is("the piece has to be in it", x.fewestJoined(1, 115), 3);
        Due.is("from the longest", x.fewestJoined(2, 144), 2);
        Due.is("one foot", x.fewestJoined(1, 1), 1);
        x.join(0, 2);
        Due.is("with a joined one", x.fewestJoined(1, 158), 2);
        x.join(0, 2);
        Due.is("those that are gone are not used", x.fewestJoined(0, 183), RopeWalk.NONE);
        x.join(0, 1);
        Due.is("one piece alone", x.fewestJoined(0, 183), RopeWalk.NONE);
        x = Walks.plain();
        x.set(RopeWalk.OVERLAP, 1);
        for (int i = 0; i < 24; i++) {
            x.lay(0, 3, 1, 11 + i);
        }
        Due.is("with 24 pieces", x.fewestJoined(0, 517), 24);
        Due.is("more than 24 pieces reach", x.fewestJoined(0, 518), RopeWalk.NONE);
    }

    private static void promise21WhatIsUsed() {
        RopeWalk x = Walks.withPieces(6, 7, 40, 5);
        x.lay(1, 3, 1, 100);
        x.lay(0, 4, 1, 100);
        x.lay(0, 3, 2, 100);
        Due.is("one of OVERLAP alone", x.fewestJoined(0, 6), 1);
        Due.is("one of OVERLAP is not joined", x.fewestJoined(0, 7), RopeWalk.NONE);
        Due.is("one just longer", x.fewestJoined(1, 8), 2);
        Due.is("one just longer, a foot more", x.fewestJoined(2, 41), 2);
        Due.is("others are not of its kind", x.fewestJoined(2, 42), RopeWalk.NONE);
        Due.is("the one of 4 strands", x.fewestJoined(5, 101), RopeWalk.NONE);
        x.set(RopeWalk.OVERLAP, 30);
        Due.is("none but itself", x.fewestJoined(2, 41), RopeWalk.NONE);
        x.set(RopeWalk.OVERLAP, 1);
        Due.is("all of them", x.fewestJoined(3, 55), 4);
        Due.is("all but one", x.fewestJoined(3, 50), 3);
    }

    private static void promise21WrongInputs() {
        RopeWalk x = Walks.withPieces(50, 20);
        Due.is("fewestJoined(2, 10)", x.fewestJoined(2, 10), RopeWalk.NO_SUCH);
        Due.is("fewestJoined(-1, 0)", x.fewestJoined(-1, 0), RopeWalk.NO_SUCH);
        Due.is("fewestJoined(0, 0)", x.fewestJoined(0, 0), RopeWalk.BAD_VALUE);
        Due.is("fewestJoined(0, 5001)", x.fewestJoined(0, 5001), RopeWalk.BAD_VALUE);
        Due.is("fewestJoined(0, 5000)", x.fewestJoined(0, 5000), RopeWalk.NONE);
    }

    private static void promise22FinesIn() {
        RopeWalk x = new RopeWalk();
        Due.is("finesIn without orders", x.finesIn(200), 0);
        x.order(0, 1, 10, 2, 4, 0);
        x.order(0, 1, 10, 3, 0, 0);
        Due.is("finesIn(1)", x.finesIn(1), 150);
        Due.is("finesIn(2)", x.finesIn(2), 300);
        Due.is("finesIn(3)", x.finesIn(3), 550);
        Due.is("finesIn(200)", x.finesIn(200), 50 * (3 * 200 + 2 * 198));
        x.pass(1);
        Due.is("finesIn(1) tomorrow", x.finesIn(1), 150);
        Due.is("finesIn(2) tomorrow", x.finesIn(2), 400);
        x.pass(9);
        x.set(RopeWalk.FINE, 3);
        Due.is("finesIn(10) later", x.finesIn(10), 150);
        x.drop(0);
        Due.is("finesIn(10) without the first", x.finesIn(10), 90);
        x.drop(0);
        Due.is("finesIn(10) without both", x.finesIn(10), 0);
        for (int i = 0; i < 16; i++) {
            x.order(0, 1, 10, 1, 2 * i, 0);
        }
        Due.is("finesIn(20) with 16 orders", x.finesIn(20), 3 * (20 + 5) * 16 / 2);
        for (int i = 0; i < 6; i++) {
            x.pass(20);
        }
        Due.is("finesIn(1) with 16 orders", x.finesIn(1), 48);
        for (int i = 0; i < 13; i++) {
            x.drop(3);
        }
        Due.is("finesIn(10) with three", x.finesIn(10), 90);
        x.drop(0);
        x.order(0, 1, 10, 3, 0, 0);
        Due.is("finesIn(10) with five ropes", x.finesIn(10), 150);
        int before = x.count(6);
        x.pass(10);
        Due.is("they are paid", x.count(6) - before, 150);
        for (int i = 0; i < 47; i++) {
            x.pass(60);
        }
        Due.is("today", x.count(0), 2960);
        Due.is("finesIn(200) beyond 3000", x.finesIn(200), 3000);
    }

    private static void promise22WrongInputs() {
        RopeWalk x = new RopeWalk();
        x.order(0, 1, 10, 2, 0, 0);
        Due.is("finesIn(0)", x.finesIn(0), RopeWalk.BAD_VALUE);
        Due.is("finesIn(-1)", x.finesIn(-1), RopeWalk.BAD_VALUE);
        Due.is("finesIn(201)", x.finesIn(201), RopeWalk.BAD_VALUE);
        Due.is("finesIn(200)", x.finesIn(200), 20000);
    }

    private static void nothingChanges() {
        RopeWalk x = Walks.withPieces(50, 20, 100, 39);
        x.order(0, 1, 30, 2, 4, 8);
        x.order(0, 1, 9, 20, 1, 9);
        String before = Walks.seen(x);
        int changes = x.count(8);
        x.takes(0, 3, 1, 10, 2);
        x.longest(0, 3, 1);
        x.leastYarns(0, 3, 10);
        x.wouldFill(0, 0);
        x.wouldFill(1, 1);
        x.bestSet(0);
        x.bestSet(1);
        x.fewestJoined(0, 100);
        x.finesIn(100);
        Due.is("what if changes nothing", Walks.seen(x), before);
        Due.is("what if records nothing", x.count(8), changes);
    }

    private static void promise16WhateverThereIs() {
        String takes = """
            takes(0, 4, 40, 2000, 0) = 2240; takes(0, 4, 40, 2000, 1) = 2912; takes(0, 4, 40, 2000, 2) = 465920
            takes(0, 4, 40, 2000, 3) = 90; takes(0, 4, 40, 2000, 4) = 96; takes(0, 4, 40, 2000, 5) = 9216
            takes(0, 3, 1, 1, 0) = 2; takes(0, 3, 1, 1, 1) = 3; takes(0, 3, 1, 1, 2) = 9; takes(0, 3, 1, 1, 3) = 1; takes(0, 3, 1, 1, 5) = 172
            """;
        Script.run("takes, without yarn, above WALK and HOURS", takes);
        Script.run("takes, with WALK of 100 and HOURS of 1", "set(WALK, 100); set(HOURS, 1)\n" + takes);
        Script.run("takes, with 24 pieces", "spin(0, 99999); set(HOURS, 24); 24 * lay(0, 3, 1, 1); count(3) = 0\n" + takes);
    }

    private static void promise17ByEachBound() {
        Script.run("the longest by WALK, yarn and hours", Walks.plain(), """
            set(WALK, 100) = 2000; longest(0, 3, 1) = 100; set(LAY, 1) = 0; longest(0, 3, 1) = 99; set(LAY, 0) = 1; set(WALK, 2000) = 100
            set(HOURS, 1) = 24; longest(0, 3, 1) = 166; longest(0, 4, 1) = 125; set(SPEED, 498) = 500; longest(0, 3, 1) = 166
            set(SPEED, 497) = 498; longest(0, 3, 1) = 165; set(HOURS, 24) = 1; set(SPEED, 500) = 497
            lay(1, 4, 40, 2000) = 0; longest(0, 4, 1) = 1000; longest(0, 3, 1) = 1333""");
        Script.run("the longest by the yarn", """
            set(LAY, 0); set(TWIST, 50); spin(0, 449) = 449; longest(0, 3, 1) = 99; spin(0, 1) = 450; longest(0, 3, 1) = 100
            spin(0, 2) = 452; longest(0, 3, 1) = 100; spin(0, 4) = 456; longest(0, 3, 1) = 101; longest(0, 4, 1) = 76; longest(0, 3, 40) = 2
            longest(0, 4, 40) = 1; longest(1, 3, 1) = NONE; lay(0, 3, 1, 102) = NOT_POSSIBLE; lay(0, 3, 1, 101) = 0""");
    }

    private static void promise17AtTheEnds() {
        Script.run("the longest of all and none", Walks.plain(), """
            longest(0, 3, 1) = 2000; longest(2, 4, 40) = 2000; set(LAY, 1) = 0; longest(0, 3, 1) = 1980; set(LAY, 0) = 1
            lay(0, 4, 1, 2000) = 0; lay(0, 4, 1, 1000) = 1; count(3) = 0; longest(0, 3, 1) = NONE; longest(0, 3, 41) = BAD_VALUE
            pass(1) = 1; longest(0, 3, 1) = 2000; longest(3, 3, 1) = NO_SUCH; longest(0, 2, 1) = BAD_VALUE""");
        Script.run("the longest of a foot and none", """
            longest(0, 3, 1) = NONE; spin(0, 8) = 8; longest(0, 3, 1) = NONE; spin(0, 1) = 9; longest(0, 3, 1) = 1; longest(0, 4, 1) = NONE
            set(SPEED, 10) = 100; set(HOURS, 1) = 12; longest(0, 3, 1) = 1; spin(0, 900) = 909; longest(0, 3, 1) = 2; longest(0, 4, 1) = 1""");
    }

    /** With a number of yarns a rope has a strength; a bit more takes a yarn more, and with 40 of them there is none. */
    private static void promise18EachStrength() {
        for (int fibre = 0; fibre < 3; fibre++) {
            for (int strands = 3; strands <= 4; strands++) {
                RopeWalk x = new RopeWalk();
                for (int yarns = 1; yarns <= 40; yarns++) {
                    int strength = x.takes(fibre, strands, yarns, 10, 5);
                    String call = "leastYarns(" + fibre + ", " + strands + ", ";
                    Due.is(call + strength + ")", x.leastYarns(fibre, strands, strength), yarns);
                    Due.is(call + (strength + 1) + ")", x.leastYarns(fibre, strands, strength + 1), yarns < 40 ? yarns + 1 : RopeWalk.NONE);
                }
                Due.is("leastYarns of the least strength", x.leastYarns(fibre, strands, 1), 1);
                Due.is("leastYarns of the most strength", x.leastYarns(fibre, strands, 50000), RopeWalk.NONE);
            }
        }
    }

    private static void promise18WhateverThereIs() {
        Script.run("leastYarns of a rope that is laid now, whatever there is", """
            leastYarns(0, 3, 172) = 1; leastYarns(0, 3, 173) = 2; set(TWIST, 32) = 30; leastYarns(0, 3, 180) = 1; leastYarns(0, 3, 181) = 2
            set(SPLICE, 60) = 15; leastYarns(0, 3, 180) = 1; fibre(0, 1, 32) = 6032; leastYarns(0, 3, 3) = 1; leastYarns(0, 3, 4) = 2
            leastYarns(0, 3, 120) = 40; leastYarns(0, 3, 121) = NONE; leastYarns(0, 4, 160) = 40; leastYarns(0, 4, 161) = NONE
            fibre(0, 1, 60) = 132; leastYarns(0, 3, 1) = 1; leastYarns(0, 3, 2) = 2; leastYarns(0, 3, 52) = 40     // 1.32, 2.64, 52.8
            leastYarns(0, 3, 53) = NONE""");
    }

    private static void promise19AsFillDoes() {
        int[][] orders = {{1, 20, 3, 0}, {1, 33, 20, 0}, {255, 7, 20, 1}, {300, 95, 1, 1}, {1, 94, 2, 1}, {301, 1, 1, 1}, {1, 1, 20, 0}, {1, 500, 1, 1}};
        for (int[] order : orders) {
            RopeWalk x = Walks.withPieces(50, 50, 95, 40, 21, 30);
            x.join(0, 1);
            x.order(0, order[0], order[1], order[2], order[3], 3);
            String of = " of " + order[2] + " ropes of " + order[1];
            int[] would = {x.wouldFill(0, 0), x.wouldFill(0, 1), x.wouldFill(0, 2)};
            int answer = x.fill(0);
            Due.is("wouldFill 0" + of, would[0], answer > 0 ? answer : 0);
            Due.is("wouldFill 1" + of, would[1], x.account(0, 5));
            Due.is("wouldFill 2" + of, would[2], x.count(1));
        }
    }

    private static void promise19NoneAndAll() {
        Script.run("what would be left: all, or none", Walks.withPieces(50, 49, 40), """
            order(0, 1, 51, 1, 0, 0) = 0; wouldFill(0, 0) = 0; wouldFill(0, 1) = 0; wouldFill(0, 2) = 3
            order(0, 1, 40, 20, 0, 0) = 1; wouldFill(1, 0) = 3; wouldFill(1, 1) = 41; wouldFill(1, 2) = 1
            set(SHORTEST, 11) = 10; wouldFill(1, 0) = 3; wouldFill(1, 1) = 86; wouldFill(1, 2) = 0
            order(1, 1, 1, 1, 1, 0) = 2; wouldFill(2, 0) = 0; wouldFill(2, 1) = 0; wouldFill(2, 2) = 3
            wouldFill(0, 3) = BAD_VALUE; wouldFill(0, -1) = BAD_VALUE; wouldFill(3, 0) = NO_SUCH; wouldFill(3, 3) = NO_SUCH; wouldFill(-1, 0) = NO_SUCH
            fill(1) = 3; account(0, 5) = 86; count(1) = 0""");
        Script.run("what would be left of nothing", "order(0, 1, 1, 1, 0, 0) = 0; wouldFill(0, 0) = 0; wouldFill(0, 1) = 0; wouldFill(0, 2) = 0");
    }

    private static void promise20AsFarAsItGoes() {
        Script.run("each of them as far as it goes", Walks.withPieces(100), """
            order(0, 1, 30, 20, 0, 10) = 0; bestSet(0) = 1; bestSet(1) = 30; order(0, 1, 10, 20, 0, 3) = 1; bestSet(0) = 3; bestSet(1) = 33
            order(0, 1, 100, 1, 0, 32) = 2; bestSet(0) = 3; bestSet(1) = 33; drop(2); order(0, 1, 100, 1, 0, 33) = 2; bestSet(0) = 4; bestSet(1) = 33
            drop(2); order(0, 1, 100, 1, 0, 34) = 2; bestSet(0) = 4; bestSet(1) = 34; order(0, 1, 1, 20, 0, 100000) = 3
            bestSet(0) = 8; bestSet(1) = 2000000; lengths() = "100"; count(5) = 0""");
        Script.run("the lower ones first", Walks.withPieces(60, 100), """
            order(0, 1, 60, 1, 0, 5) = 0; order(0, 1, 50, 2, 0, 4) = 1; bestSet(0) = 3; bestSet(1) = 13
            drop(0); order(0, 1, 60, 1, 0, 5) = 1; bestSet(0) = 1; bestSet(1) = 8        // no 60 feet are left by the first
            drop(0); order(0, 1, 61, 1, 0, 4) = 1; bestSet(0) = 3; bestSet(1) = 9
            drop(0); order(0, 1, 60, 1, 0, 5) = 1; bestSet(0) = 3; bestSet(1) = 9""");
    }

    private static void promise20NothingIsGot() {
        Script.run("0 without orders, and if nothing is got", Walks.withPieces(100), """
            bestSet(0) = 0; bestSet(1) = 0; bestSet(-1) = BAD_VALUE; bestSet(2) = BAD_VALUE
            order(0, 1, 10, 5, 0, 0) = 0; bestSet(0) = 0; bestSet(1) = 0; order(0, 301, 10, 5, 0, 100000) = 1; bestSet(0) = 0; bestSet(1) = 0
            order(0, 300, 100, 1, 0, 1) = 2; bestSet(0) = 4; bestSet(1) = 1; fill(2) = 1; bestSet(0) = 0; bestSet(1) = 0""");
    }

    private static void promise21AtTheEnds() {
        Script.run("feet of 1 to 5000", Walks.withPieces(2000, 2000), """
            pass(1); lay(0, 3, 1, 1012) = 2; fewestJoined(0, 0) = BAD_VALUE; fewestJoined(0, 1) = 1; fewestJoined(0, 2000) = 1; fewestJoined(0, 2001) = 2
            fewestJoined(0, 3994) = 2; fewestJoined(0, 3995) = 3; fewestJoined(0, 5000) = 3; fewestJoined(0, 5001) = BAD_VALUE
            fewestJoined(2, 3006) = 2; fewestJoined(2, 3007) = 3; fewestJoined(2, 5000) = 3
            test(2) = 300; fewestJoined(0, 5000) = NONE; fewestJoined(0, 4995) = 3; fewestJoined(3, 1) = NO_SUCH; fewestJoined(-1, 0) = NO_SUCH""");
        Script.run("no longer than OVERLAP", Walks.withPieces(30, 31, 31, 30, 29), """
            set(OVERLAP, 30) = 6; fewestJoined(0, 30) = 1; fewestJoined(0, 31) = NONE; fewestJoined(1, 31) = 1; fewestJoined(1, 32) = 2
            fewestJoined(1, 33) = NONE; fewestJoined(4, 29) = 1; fewestJoined(4, 30) = NONE; set(OVERLAP, 29) = 30
            fewestJoined(0, 31) = 2; fewestJoined(0, 32) = 2; fewestJoined(0, 33) = 3; fewestJoined(0, 34) = 3; fewestJoined(0, 35) = 4
            fewestJoined(0, 36) = NONE; fewestJoined(4, 29) = 1; fewestJoined(4, 30) = NONE""");
    }

    private static void promise21OfOneKind() {
        Script.run("of the fibre, the strands and the yarns of a piece, whatever its quality and splices", Walks.withPieces(50, 40, 41), """
            lay(1, 3, 1, 500) = 3; lay(0, 4, 1, 500) = 4; lay(0, 3, 2, 500) = 5; fewestJoined(0, 85) = 2; fewestJoined(0, 86) = 3
            fewestJoined(0, 119) = 3; fewestJoined(0, 120) = NONE; fewestJoined(3, 501) = NONE; fewestJoined(4, 501) = NONE; fewestJoined(5, 501) = NONE
            set(TWIST, 10) = 50; lay(0, 3, 1, 60) = 6; piece(6, 5) = 40; fewestJoined(0, 104) = 2; fewestJoined(0, 105) = 3
            join(1, 2) = 1; piece(1, 3) = 75; fewestJoined(0, 119) = 2; fewestJoined(1, 129) = 2; fewestJoined(1, 130) = 3; fewestJoined(5, 173) = 3
            fewestJoined(5, 174) = NONE; lengths() = "50 75 500 500 500 60";""");
    }

    private static void promise22FirstAndLastDay() {
        Script.run("today is the first of the days", """
            finesIn(1) = 0; order(0, 1, 1, 1, 0, 0) = 0; finesIn(1) = 50; finesIn(2) = 100; finesIn(200) = 10000; drop(0)
            order(0, 1, 1, 1, 2, 0) = 0; finesIn(1) = 0; finesIn(2) = 50; finesIn(200) = 9950; drop(0)
            order(0, 1, 1, 20, 200, 0) = 0; finesIn(100) = 0; finesIn(101) = 1000; finesIn(102) = 2000; finesIn(200) = 100000
            finesIn(0) = BAD_VALUE; finesIn(201) = BAD_VALUE; finesIn(MIN) = BAD_VALUE; finesIn(MAX) = BAD_VALUE
            set(FINE, 0) = 50; finesIn(200) = 0; set(FINE, 500) = 0; finesIn(101) = 10000; count(6) = 100""");
        Script.run("beyond day 3000", """
            50 * pass(60); order(0, 1, 1, 2, 0, 0) = 0; finesIn(1) = 100; finesIn(200) = 20000; pass(1) = NOT_POSSIBLE; count(6) = 0""");
        Script.run("the most of all orders", """
            set(FINE, 500) = 50; 16 * order(0, 1, 1, 20, 0, 0); finesIn(1) = 160000; finesIn(200) = 32000000; pass(60) = 60; count(6) = 9600000""");
    }

    private static void promise22AsPassPays() {
        RopeWalk x = new RopeWalk();
        for (int i = 0; i < 16; i++) {
            x.order(i % 3, 1, 1, 1 + i, 5 * i, 0);
        }
        for (int days = 1; days <= 60; days += days < 40 ? 3 : 1) {
            int tells = x.finesIn(days);
            int before = x.count(6);
            x.pass(days);
            Due.is("finesIn(" + days + ") before pass()", tells, x.count(6) - before);
            x.undo();
        }
    }

    private static void promise20EndsAndSplices() {
        Script.run("an end that a lower one leaves is not sold to a higher one", Walks.withPieces(25), """
            order(0, 1, 20, 1, 0, 5) = 0; order(0, 1, 5, 1, 0, 3) = 1; bestSet(0) = 1; bestSet(1) = 5
            set(SHORTEST, 5) = 10; bestSet(0) = 3; bestSet(1) = 8; set(SHORTEST, 6) = 5; bestSet(0) = 1; bestSet(1) = 5; account(0, 5) = 0""");
        Script.run("what suits an order suits it in a set too", Walks.withPieces(50, 50), """
            join(0, 1) = 0; lay(1, 3, 1, 40) = 1; order(0, 1, 40, 2, 0, 9) = 0; bestSet(0) = 0; order(0, 255, 40, 3, 1, 7) = 1; bestSet(0) = 2
            bestSet(1) = 14; order(0, 256, 40, 3, 1, 8) = 2; order(1, 75, 40, 3, 0, 1) = 3; order(1, 76, 40, 3, 0, 2) = 4; bestSet(0) = 10
            bestSet(1) = 15; set(SPLICE, 14) = 15; bestSet(0) = 12; bestSet(1) = 17""");
    }
}
