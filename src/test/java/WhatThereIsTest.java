/** Promises 12 to 15: piece, ofOrder, count, account. */
public final class WhatThereIsTest {
    public static void main(String[] args) {
        promise12Piece();
        promise13OfOrder();
        promise14Count();
        promise15Account();
        promise15AllYarn();
        promise12AtBothEnds();
        promise13PiecesThatSuit();
        promise14AtBothEnds();
        promise14HoursThatAreLeft();
        promise15AtBothEnds();
        Due.finish("WhatThereIsTest");
    }

    private static void promise12Piece() {
        RopeWalk x = Walks.roomy();
        x.fibre(1, 51, 27);
        x.lay(1, 4, 6, 77);
        x.lay(2, 3, 40, 10);
        // strands of 87 (86.24), yarns of 114 (113.1)
        int[] first = {1, 4, 6, 77, 2736, 94, 0, 1150};
        // strands of 12 (11.2), yarns of 16 (15.6)
        int[] second = {2, 3, 40, 10, 1920, 88, 0, 3168};
        for (int what = 0; what < 8; what++) {
            Due.is("piece(0, " + what + ")", x.piece(0, what), first[what]);
            Due.is("piece(1, " + what + ")", x.piece(1, what), second[what]);
        }
        x.fibre(1, 13, 60);
        Due.is("strength with the yarn of now", x.piece(0, 7), 293);
        Due.is("quality as when it was laid", x.piece(0, 5), 94);
        Due.is("piece(0, -1)", x.piece(0, -1), RopeWalk.BAD_VALUE);
        Due.is("piece(0, 8)", x.piece(0, 8), RopeWalk.BAD_VALUE);
        Due.is("piece(2, 0)", x.piece(2, 0), RopeWalk.NO_SUCH);
        Due.is("piece(-1, 0)", x.piece(-1, 0), RopeWalk.NO_SUCH);
        Due.is("piece(2, 8)", x.piece(2, 8), RopeWalk.NO_SUCH);
        Due.is("piece(24, 0)", x.piece(24, 0), RopeWalk.NO_SUCH);
        Due.is("piece(MAX, 0)", x.piece(Integer.MAX_VALUE, 0), RopeWalk.NO_SUCH);
    }

    private static void promise13OfOrder() {
        RopeWalk x = Walks.withPieces(40, 50);
        x.order(0, 300, 45, 6, 5, 123);
        x.order(0, 299, 40, 7, 4, 456);
        int[] first = {0, 300, 45, 6, 1, 2, 123, 1};
        int[] second = {0, 299, 40, 7, 0, 2, 456, 2};
        for (int what = 0; what < 8; what++) {
            Due.is("ofOrder(0, " + what + ")", x.ofOrder(0, what), first[what]);
            Due.is("ofOrder(1, " + what + ")", x.ofOrder(1, what), second[what]);
        }
        x.fibre(0, 99, 50);
        Due.is("pieces that are too weak now", x.ofOrder(0, 7), 0);
        Due.is("ofOrder(0, -1)", x.ofOrder(0, -1), RopeWalk.BAD_VALUE);
        Due.is("ofOrder(0, 8)", x.ofOrder(0, 8), RopeWalk.BAD_VALUE);
        Due.is("ofOrder(2, 0)", x.ofOrder(2, 0), RopeWalk.NO_SUCH);
        Due.is("ofOrder(-1, 0)", x.ofOrder(-1, 0), RopeWalk.NO_SUCH);
        Due.is("ofOrder(2, 8)", x.ofOrder(2, 8), RopeWalk.NO_SUCH);
        Due.is("ofOrder(MIN, 0)", x.ofOrder(Integer.MIN_VALUE, 0), RopeWalk.NO_SUCH);
        x.undo();
        x.fill(1);
        Due.is("still wanted", x.ofOrder(1, 3), 5);
    }

    private static void promise14Count() {
        RopeWalk x = Walks.withPieces(40, 50);
        x.order(0, 1, 20, 3, 0, 11);
        x.order(0, 1, 20, 9, 1, 13);
        x.fill(0);
        x.pass(4);
        x.lay(0, 3, 1, 400);
        Walks.put(x, "y0+12;y");
        int[] all = {4, 2, 1, 21, 3, 33, 1800, 7, 6, 2000, 50, 0, 15, 6, 5, 10, 24, 500, 50, 100, 45, 30, 50, 28, 24};
        for (int what = 0; what < all.length; what++) {
            Due.is("count(" + what + ")", x.count(what), all[what]);
        }
        Due.is("count(-1)", x.count(-1), RopeWalk.BAD_VALUE);
        Due.is("count(25)", x.count(25), RopeWalk.BAD_VALUE);
        Due.is("count(MAX)", x.count(Integer.MAX_VALUE), RopeWalk.BAD_VALUE);
        Due.is("count(MIN)", x.count(Integer.MIN_VALUE), RopeWalk.BAD_VALUE);
        x.wipe();
        x.undo();
        Due.is("count(7) of an empty pad", x.count(7), 0);
        Due.is("count(8) behind undo", x.count(8), 5);
    }

    private static void promise15Account() {
        RopeWalk x = Walks.withPieces(40, 34, 100);
        x.order(0, 1, 30, 1, 0, 11);
        x.fill(0);
        x.test(1);
        // 51 of 153 feet of yarn: 30 of 34 sold, the rest an end; of 450 feet those in 5 of 100 tested
        int[] all = {3000000, 3000000 - 180 - 153 - 450, 180 + 428, 135, 22, 18};
        for (int what = 0; what < 6; what++) {
            Due.is("account(0, " + what + ")", x.account(0, what), all[what]);
            Due.is("account(1, " + what + ")", x.account(1, what), what < 2 ? 3000000 : 0);
        }
        Due.is("account(0, -1)", x.account(0, -1), RopeWalk.BAD_VALUE);
        Due.is("account(0, 6)", x.account(0, 6), RopeWalk.BAD_VALUE);
        Due.is("account(-1, 0)", x.account(-1, 0), RopeWalk.NO_SUCH);
        Due.is("account(3, 0)", x.account(3, 0), RopeWalk.NO_SUCH);
        Due.is("account(3, 6)", x.account(3, 6), RopeWalk.NO_SUCH);
    }

    private static void promise15AllYarn() {
        RopeWalk x = Walks.plain();
        for (int i = 0; i < 20; i++) {
            int fibre = i % 3;
            x.lay(fibre, 3 + i % 2, 1 + i % 7, 13 + 17 * i);
            x.order(fibre, 1 + 20 * i, 7 + 3 * i, 1 + i % 5, i, 100);
            x.join(i % 5, i % 6);
            x.fill(0);
            x.test(i % 4);
            x.pass(1);
            allYarn(x, fibre, "in step " + i);
            if (i % 5 == 4) {
                Due.is("yarn in pieces of fibre " + fibre + " in step " + i, inPieces(x, fibre), x.account(fibre, 2));
            }
        }
        Due.holds("some yarn was sold, tested and lost", x.account(0, 3) > 0 && x.account(0, 4) > 0 && x.account(0, 5) > 0);
    }

    private static void allYarn(RopeWalk x, int fibre, String when) {
        int all = 0;
        for (int what = 1; what < 6; what++) {
            all += x.account(fibre, what);
        }
        Due.is("all yarn of fibre " + fibre + " " + when, all, x.account(fibre, 0));
    }

    private static int inPieces(RopeWalk x, int fibre) {
        int all = 0;
        for (int piece = 0; piece < x.count(1); piece++) {
            all += x.piece(piece, 0) == fibre ? x.piece(piece, 4) : 0;
        }
        return all;
    }

    private static void promise12AtBothEnds() {
        Script.run("numbers of pieces, and what 0 to 7", Walks.withPieces(2000, 1), """
            piece(0, -1) = BAD_VALUE; piece(0, 0) = 0; piece(0, 7) = 300; piece(0, 8) = BAD_VALUE; piece(0, MIN) = BAD_VALUE; piece(0, MAX) = BAD_VALUE
            piece(-1, 0) = NO_SUCH; piece(1, 3) = 1; piece(2, 3) = NO_SUCH; piece(2, -1) = NO_SUCH; piece(MIN, 8) = NO_SUCH
            piece(0, 3) = 2000; piece(0, 4) = 9000; piece(1, 4) = 6; piece(1, 6) = 0""");
        Script.run("no piece", "piece(0, 0) = NO_SUCH; piece(0, 8) = NO_SUCH; piece(-1, -1) = NO_SUCH");
    }

    private static void promise13PiecesThatSuit() {
        RopeWalk x = Walks.plain();
        for (int i = 0; i < 24; i++) {
            x.lay(0, 3, 1, 20);
        }
        Script.run("the pieces that suit, none to all", x, """
            order(0, 300, 20, 1, 0, 0) = 0; ofOrder(0, 7) = 24; order(0, 301, 20, 1, 0, 0) = 1; ofOrder(1, 7) = 0
            test(5) = 300; ofOrder(0, 7) = 23; join(0, 1) = 0; ofOrder(0, 7) = 21; order(0, 255, 20, 1, 1, 0) = 2; ofOrder(2, 7) = 22
            ofOrder(0, -1) = BAD_VALUE; ofOrder(0, 8) = BAD_VALUE; ofOrder(3, 7) = NO_SUCH; ofOrder(-1, 8) = NO_SUCH
            ofOrder(0, MAX) = BAD_VALUE; ofOrder(MIN, MIN) = NO_SUCH; fill(0) = 1; ofOrder(0, 7) = 0; ofOrder(1, 7) = 21""");
        Script.run("no order", "ofOrder(0, 0) = NO_SUCH; ofOrder(0, 8) = NO_SUCH; ofOrder(-1, -1) = NO_SUCH");
    }

    private static void promise14AtBothEnds() {
        Script.run("what 0 to 24", """
            count(-1) = BAD_VALUE; count(0) = 0; count(24) = 24; count(25) = BAD_VALUE; count(MIN) = BAD_VALUE; count(MAX) = BAD_VALUE
            count(8) = 0; count(9) = 1000; count(18) = 50; count(19) = 60; count(21) = 30; count(22) = 32
            set(FINE, 500); set(WALK, 2000); fibre(0, 200, 60); fibre(2, 1, 10)
            count(9) = 2000; count(18) = 500; count(19) = 200; count(21) = 1; count(22) = 60; count(24) = 10; count(8) = 4""");
    }

    private static void promise14HoursThatAreLeft() {
        Script.run("the hours that are left today, none at least", Walks.plain(), """
            count(3) = 24; lay(0, 4, 1, 2000) = 0; count(3) = 8; lay(0, 4, 1, 1000) = 1; count(3) = 0; set(HOURS, 1) = 24; count(3) = 0
            pass(1) = 1; count(3) = 1; join(0, 1) = 0; test(0) = 340; count(3) = 1""");
    }

    private static void promise15AtBothEnds() {
        Script.run("fibres 0 to 2, what 0 to 5", """
            spin(2, 7) = 7; account(2, 0) = 7; account(2, 1) = 7; account(2, 5) = 0; account(2, 6) = BAD_VALUE; account(2, -1) = BAD_VALUE
            account(3, 0) = NO_SUCH; account(-1, 0) = NO_SUCH; account(3, 6) = NO_SUCH; account(MIN, MAX) = NO_SUCH; account(0, MAX) = BAD_VALUE
            account(0, 0) = 0; account(1, 1) = 0""");
    }
}
