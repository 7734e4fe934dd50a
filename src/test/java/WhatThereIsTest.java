/** Promises 12 to 15: piece, ofOrder, count, account. */
public final class WhatThereIsTest {
    public static void main(String[] args) {
        promise12Piece();
        promise13OfOrder();
        promise14Count();
        promise15Account();
        promise15AllYarn();
        Due.finish("WhatThereIsTest");
    }

    private static void promise12Piece() {
        RopeWalk x = Walks.roomy();
        x.fibre(1, 51, 27);
        x.lay(1, 4, 6, 77);
        x.lay(2, 3, 40, 10);
        // strands of 87 (86.24), yarns of 114 (113.1)
        int[] first = {1, 4, 6, 77, 2736, 94, 0, 1150};
        // strands of 12 (11.2), yarns of 16 (15.6)
        int[] second = {2, 3, 40, 10, 1920, 88, 0, 3168};
        for (int what = 0; what < 8; what++) {
            Due.is("piece(0, " + what + ")", x.piece(0, what), first[what]);
            Due.is("piece(1, " + what + ")", x.piece(1, what), second[what]);
        }
        x.fibre(1, 13, 60);
        Due.is("strength with the yarn of now", x.piece(0, 7), 293);
        Due.is("quality as when it was laid", x.piece(0, 5), 94);
        Due.is("piece(0, -1)", x.piece(0, -1), RopeWalk.BAD_VALUE);
        Due.is("piece(0, 8)", x.piece(0, 8), RopeWalk.BAD_VALUE);
        Due.is("piece(2, 0)", x.piece(2, 0), RopeWalk.NO_SUCH);
        Due.is("piece(-1, 0)", x.piece(-1, 0), RopeWalk.NO_SUCH);
        Due.is("piece(2, 8)", x.piece(2, 8), RopeWalk.NO_SUCH);
        Due.is("piece(24, 0)", x.piece(24, 0), RopeWalk.NO_SUCH);
        Due.is("piece(MAX, 0)", x.piece(Integer.MAX_VALUE, 0), RopeWalk.NO_SUCH);
    }

    private static void promise13OfOrder() {
        RopeWalk x = Walks.withPieces(40, 50);
        x.order(0, 300, 45, 6, 5, 123);
        x.order(0, 299, 40, 7, 4, 456);
        int[] first = {0, 300, 45, 6, 1, 2, 123, 1};
        int[] second = {0, 299, 40, 7, 0, 2, 456, 2};
        for (int what = 0; what < 8; what++) {
            Due.is("ofOrder(0, " + what + ")", x.ofOrder(0, what), first[what]);
            Due.is("ofOrder(1, " + what + ")", x.ofOrder(1, what), second[what]);
        }
        x.fibre(0, 99, 50);
        Due.is("pieces that are too weak now", x.ofOrder(0, 7), 0);
        Due.is("ofOrder(0, -1)", x.ofOrder(0, -1), RopeWalk.BAD_VALUE);
        Due.is("ofOrder(0, 8)", x.ofOrder(0, 8), RopeWalk.BAD_VALUE);
        Due.is("ofOrder(2, 0)", x.ofOrder(2, 0), RopeWalk.NO_SUCH);
        Due.is("ofOrder(-1, 0)", x.ofOrder(-1, 0), RopeWalk.NO_SUCH);
        Due.is("ofOrder(2, 8)", x.ofOrder(2, 8), RopeWalk.NO_SUCH);
        Due.is("ofOrder(MIN, 0)", x.ofOrder(Integer.MIN_VALUE, 0), RopeWalk.NO_SUCH);
        x.undo();
        x.fill(1);
        Due.is("still wanted", x.ofOrder(1, 3), 5);
    }

    private static void promise14Count() {
        RopeWalk x = Walks.withPieces(40, 50);
        x.order(0, 1, 20, 3, 0, 11);
        x.order(0, 1, 20, 9, 1, 13);
        x.fill(0);
        x.pass(4);
        x.lay(0, 3, 1, 400);
        Walks.put(x, "y0+12;y");
        int[] all = {4, 2, 1, 21, 3, 33, 1800, 7, 6, 2000, 50, 0, 15, 6, 5, 10, 24, 500, 50, 100, 45, 30, 50, 28, 24};
        for (int what = 0; what < all.length; what++) {
            Due.is("count(" + what + ")", x.count(what), all[what]);
        }
        Due.is("count(-1)", x.count(-1), RopeWalk.BAD_VALUE);
        Due.is("count(25)", x.count(25), RopeWalk.BAD_VALUE);
        Due.is("count(MAX)", x.count(Integer.MAX_VALUE), RopeWalk.BAD_VALUE);
        Due.is("count(MIN)", x.count(Integer.MIN_VALUE), RopeWalk.BAD_VALUE);
        x.wipe();
        x.undo();
        Due.is("count(7) of an empty pad", x.count(7), 0);
        Due.is("count(8) behind undo", x.count(8), 5);
    }

    private static void promise15Account() {
        RopeWalk x = Walks.withPieces(40, 34, 100);
        x.order(0, 1, 30, 1, 0, 11);
        x.fill(0);
        x.test(1);
        // 51 of 153 feet of yarn: 30 of 34 sold, the rest an end; of 450 feet those in 5 of 100 tested
        int[] all = {3000000, 3000000 - 180 - 153 - 450, 180 + 428, 135, 22, 18};
        for (int what = 0; what < 6; what++) {
            Due.is("account(0, " + what + ")", x.account(0, what), all[what]);
            Due.is("account(1, " + what + ")", x.account(1, what), what < 2 ? 3000000 : 0);
        }
        Due.is("account(0, -1)", x.account(0, -1), RopeWalk.BAD_VALUE);
        Due.is("account(0, 6)", x.account(0, 6), RopeWalk.BAD_VALUE);
        Due.is("account(-1, 0)", x.account(-1, 0), RopeWalk.NO_SUCH);
        Due.is("account(3, 0)", x.account(3, 0), RopeWalk.NO_SUCH);
        Due.is("account(3, 6)", x.account(3, 6), RopeWalk.NO_SUCH);
    }

    private static void promise15AllYarn() {
        RopeWalk x = Walks.plain();
        for (int i = 0; i < 20; i++) {
            int fibre = i % 3;
            x.lay(fibre, 3 + i % 2, 1 + i % 7, 13 + 17 * i);
            x.order(fibre, 1 + 20 * i, 7 + 3 * i, 1 + i % 5, i, 100);
            x.join(i % 5, i % 6);
            x.fill(0);
            x.test(i % 4);
            x.pass(1);
            for (int one = 0; one < 3; one++) {
                int all = 0;
                for (int what = 1; what < 6; what++) {
                    all += x.account(one, what);
                }
                Due.is("all yarn of fibre " + one + " in step " + i, all, x.account(one, 0));
                Due.is("yarn in pieces of fibre " + one + " in step " + i, inPieces(x, one), x.account(one, 2));
            }
        }
        Due.holds("some yarn was sold, tested and lost", x.account(0, 3) > 0 && x.account(0, 4) > 0 && x.account(0, 5) > 0);
    }

    private static int inPieces(RopeWalk x, int fibre) {
        int all = 0;
        for (int piece = 0; piece < x.count(1); piece++) {
            all += x.piece(piece, 0) == fibre ? x.piece(piece, 4) : 0;
        }
        return all;
    }
}
