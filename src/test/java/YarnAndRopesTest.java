/** Promises 4 to 7: spin, lay, join, test. */
public final class YarnAndRopesTest {
    public static void main(String[] args) {
        promise4Spin();
        promise4WrongInputs();
        promise5Lay();
        promise5QualityAsLaid();
        promise5Roundings();
        promise5WalkYarnAndHours();
        promise5WrongInputs();
        promise5AfterOnesThatAreGone();
        promise5TooMany();
        promise6Join();
        promise6Numbers();
        promise6QualityAndSplices();
        promise6Overlap();
        promise6WrongInputs();
        promise7Test();
        promise7EndsAndNoLength();
        promise7Strength();
        promise7WrongInputs();
        promise7ALotOfYarn();
        promise4Brim();
        promise5AllLimitsAtOnce();
        promise5BothEndsOfEachArgument();
        promise6BothTheSameOrNone();
        promise6SplicesOfBothAndOneMore();
        promise6NothingElseBoundsIt();
        promise6YarnOfBoth();
        promise7AsLongAsTest();
        promise6DifferInOne();
        promise6NoLongerThanOverlap();
        Due.finish("YarnAndRopesTest");
    }

    private static void promise4Spin() {
        RopeWalk x = new RopeWalk();
        Due.is("spin(0, 1)", x.spin(0, 1), 1);
        Due.is("spin(0, 3000000)", x.spin(0, 3000000), 3000001);
        Due.is("spin(0, 2999999)", x.spin(0, 2999999), 6000000);
        Due.is("spin(2, 70)", x.spin(2, 70), 70);
        Due.is("spin(0, 3000000) to the brim", x.spin(0, 3000000), 9000000);
        Due.is("spin(0, 1) above", x.spin(0, 1), RopeWalk.NOT_POSSIBLE);
        Due.is("store", x.account(0, 1), 9000000);
        Due.is("spun", x.account(0, 0), 9000000);
        Due.is("store of 1", x.account(1, 1), 0);
        Due.is("spin: count(8)", x.count(8), 5);
        x.undo();
        Due.is("spin undone", x.account(0, 1), 6000000);
        Due.is("spin undone, spun", x.account(0, 0), 6000000);
    }

    private static void promise4WrongInputs() {
        RopeWalk x = new RopeWalk();
        Due.is("spin(-1, 0)", x.spin(-1, 0), RopeWalk.NO_SUCH);
        Due.is("spin(3, 10)", x.spin(3, 10), RopeWalk.NO_SUCH);
        Due.is("spin(0, 0)", x.spin(0, 0), RopeWalk.BAD_VALUE);
        Due.is("spin(0, 3000001)", x.spin(0, 3000001), RopeWalk.BAD_VALUE);
        x.spin(1, 3000000);
        x.spin(1, 3000000);
        x.spin(1, 3000000);
        Due.is("spin(1, 3000001) with a full store", x.spin(1, 3000001), RopeWalk.BAD_VALUE);
        Due.is("spin(1, MAX)", x.spin(1, Integer.MAX_VALUE), RopeWalk.BAD_VALUE);
        Due.is("spin wrong: count(8)", x.count(8), 3);
    }

    private static void promise5Lay() {
        RopeWalk x = new RopeWalk();
        x.spin(1, 5000);
        Due.is("lay(1, 4, 5, 50)", x.lay(1, 4, 5, 50), 0);
        int[] all = {1, 4, 5, 50, 1460, 96, 0, 864};
        for (int what = 0; what < 8; what++) {
            Due.is("laid: piece(0, " + what + ")", x.piece(0, what), all[what]);
        }
        Due.is("laid: store", x.account(1, 1), 3540);
        Due.is("laid: in pieces", x.account(1, 2), 1460);
        Due.is("laid: spun", x.account(1, 0), 5000);
        Due.is("laid: hours left", x.count(3), 9);
        Due.is("lay a second", x.lay(1, 3, 1, 1), 1);
        Due.is("laid: count(1)", x.count(1), 2);
        Due.is("laid: one foot is a piece", x.piece(1, 3), 1);
        Due.is("lay: count(8)", x.count(8), 3);
        x.undo();
        Due.is("lay undone: count(1)", x.count(1), 1);
        Due.is("lay undone: hours left", x.count(3), 9);
        Due.is("lay undone: store", x.account(1, 1), 3540);
    }

    private static void promise5QualityAsLaid() {
        RopeWalk x = Walks.plain();
        int[][] qualities = {{50, 50, 100}, {50, 35, 70}, {20, 35, 70}, {50, 21, 42}, {50, 20, 40}, {50, 19, 40}, {60, 10, 40}};
        for (int i = 0; i < qualities.length; i++) {
            x.set(RopeWalk.TWIST, qualities[i][0]);
            x.fibre(0, 100, qualities[i][1]);
            Due.is("lay at a quality", x.lay(0, 3, 1, 20), i);
        }
        for (int i = 0; i < qualities.length; i++) {
            Due.is("quality of piece " + i, x.piece(i, 5), qualities[i][2]);
            Due.is("strength of piece " + i, x.piece(i, 7), 3 * qualities[i][2]);
        }
    }

    private static void promise5Roundings() {
        RopeWalk x = new RopeWalk();
        x.spin(0, 10000);
        // strands of 113.12, yarns of 148.2, so 3 * 4 * 149; hours of 3 * 114 / 100
        x.lay(0, 3, 4, 101);
        Due.is("yarn of 101 feet", x.piece(0, 4), 1788);
        Due.is("hours of 101 feet", x.count(3), 8);
        x.set(RopeWalk.SPEED, 114);
        x.lay(0, 3, 1, 101);
        Due.is("hours without a rest", x.count(3), 5);
    }

    private static void promise5WalkYarnAndHours() {
        RopeWalk x = Walks.roomy();
        x.set(RopeWalk.WALK, 111);
        Due.is("strands above WALK", x.lay(0, 3, 4, 100), RopeWalk.NOT_POSSIBLE);
        x.set(RopeWalk.WALK, 112);
        Due.is("strands of WALK", x.lay(0, 3, 4, 100), 0);
        x = new RopeWalk();
        x.spin(0, 1751);
        Due.is("a foot too little", x.lay(0, 3, 4, 100), RopeWalk.NOT_POSSIBLE);
        Due.is("store as before", x.account(0, 1), 1751);
        Due.is("hours as before", x.count(3), 12);
        x.spin(1, 5000);
        Due.is("of another fibre", x.lay(0, 3, 4, 100), RopeWalk.NOT_POSSIBLE);
        x.spin(0, 1);
        x.set(RopeWalk.HOURS, 3);
        Due.is("an hour too little", x.lay(0, 3, 4, 100), RopeWalk.NOT_POSSIBLE);
        x.set(RopeWalk.HOURS, 4);
        Due.is("all yarn and all hours", x.lay(0, 3, 4, 100), 0);
        Due.is("no hours are left", x.count(3), 0);
        Due.is("no yarn is left", x.account(0, 1), 0);
        x.spin(0, 5000);
        Due.is("no hours today", x.lay(0, 3, 4, 100), RopeWalk.NOT_POSSIBLE);
        x.pass(1);
        Due.is("hours of the next day", x.lay(0, 3, 4, 100), 1);
    }

    private static void promise5WrongInputs() {
        RopeWalk x = Walks.roomy();
        Due.is("lay(3, 0, 0, 0)", x.lay(3, 0, 0, 0), RopeWalk.NO_SUCH);
        Due.is("lay(-1, 3, 1, 10)", x.lay(-1, 3, 1, 10), RopeWalk.NO_SUCH);
        Due.is("lay(0, 2, 1, 10)", x.lay(0, 2, 1, 10), RopeWalk.BAD_VALUE);
        Due.is("lay(0, 5, 1, 10)", x.lay(0, 5, 1, 10), RopeWalk.BAD_VALUE);
        Due.is("lay(0, 3, 0, 10)", x.lay(0, 3, 0, 10), RopeWalk.BAD_VALUE);
        Due.is("lay(0, 3, 41, 10)", x.lay(0, 3, 41, 10), RopeWalk.BAD_VALUE);
        Due.is("lay(0, 3, 1, 0)", x.lay(0, 3, 1, 0), RopeWalk.BAD_VALUE);
        Due.is("lay(0, 3, 1, 2001)", x.lay(0, 3, 1, 2001), RopeWalk.BAD_VALUE);
        Due.is("lay(0, 3, 1, 2000) with a lay", x.lay(0, 3, 1, 2000), RopeWalk.NOT_POSSIBLE);
        x.set(RopeWalk.LAY, 0);
        Due.is("lay(0, 3, 40, 2000)", x.lay(0, 3, 40, 2000), 0);
        Due.is("lay(0, 4, 40, 1)", x.lay(0, 4, 40, 1), 1);
    }

    private static void promise5AfterOnesThatAreGone() {
        RopeWalk x = Walks.withPieces(40, 50, 60);
        x.join(1, 2);
        x.join(0, 1);
        x.order(0, 1, 138, 1, 1, 0);
        x.fill(0);
        Due.is("all are gone", x.count(1), 0);
        for (int i = 0; i < 3; i++) {
            x.lay(1, 4, 2, 30);
            int[] all = {1, 4, 2, 30, 360, 56, 0, 201};
            for (int what = 0; what < 8; what++) {
                Due.is("a new one: piece(" + i + ", " + what + ")", x.piece(i, what), all[what]);
            }
        }
    }

    private static void promise5TooMany() {
        RopeWalk x = Walks.plain();
        for (int i = 0; i < 24; i++) {
            Due.is("lay number " + i, x.lay(0, 3, 1, 20), i);
        }
        Due.is("lay a 25th", x.lay(0, 3, 1, 20), RopeWalk.TOO_MANY);
        Due.is("lay a 25th that is too long", x.lay(0, 4, 40, 2000), RopeWalk.TOO_MANY);
        Due.is("lay a 25th of 5 strands", x.lay(0, 5, 1, 20), RopeWalk.BAD_VALUE);
        Due.is("lay a 25th of fibre 3", x.lay(3, 3, 1, 20), RopeWalk.NO_SUCH);
        Due.is("count(1)", x.count(1), 24);
        x.join(0, 23);
        x.pass(1);
        Due.is("lay in the place of one that is gone", x.lay(0, 3, 1, 30), 23);
    }

    private static void promise6Join() {
        RopeWalk x = Walks.withPieces(100, 60, 40);
        Due.is("join(2, 0)", x.join(2, 0), 0);
        int[] all = {0, 3, 1, 134, 630, 100, 1, 255};
        for (int what = 0; what < 8; what++) {
            Due.is("joined: piece(0, " + what + ")", x.piece(0, what), all[what]);
        }
        Due.is("joined: lengths", Walks.lengths(x), "134 60 ");
        Due.is("join(0, 1)", x.join(0, 1), 0);
        Due.is("joined twice: length", x.piece(0, 3), 188);
        Due.is("joined twice: yarn", x.piece(0, 4), 900);
        Due.is("joined twice: splices", x.piece(0, 6), 2);
        Due.is("joined twice: strength, however many splices", x.piece(0, 7), 255);
        Due.is("joined: in pieces", x.account(0, 2), 900);
        Due.is("joined: ends", x.account(0, 5), 0);
        Due.is("join: count(8)", x.count(8), 6);
        x.undo();
        Due.is("join undone", Walks.lengths(x), "134 60 ");
    }

    private static void promise6Numbers() {
        RopeWalk x = Walks.withPieces(20, 30, 40, 50, 60);
        Due.is("join(3, 1)", x.join(3, 1), 1);
        Due.is("the later numbers decrease", Walks.lengths(x), "20 74 40 60 ");
        Due.is("join(2, 3)", x.join(2, 3), 2);
        Due.is("the last one is gone", Walks.lengths(x), "20 74 94 ");
    }

    private static void promise6QualityAndSplices() {
        RopeWalk x = Walks.withPieces(50, 50);
        x.set(RopeWalk.TWIST, 40);
        x.lay(0, 3, 1, 50);
        x.lay(0, 3, 1, 50);
        x.set(RopeWalk.TWIST, 45);
        Due.is("quality 100", x.piece(0, 5), 100);
        Due.is("quality 80", x.piece(2, 5), 80);
        x.join(0, 3);
        Due.is("the lower quality, of the other", x.piece(0, 5), 80);
        x.join(2, 1);
        Due.is("the lower quality, of the piece", x.piece(1, 5), 80);
        x.join(0, 1);
        Due.is("the splices of both and one", x.piece(0, 6), 3);
        Due.is("quality of all", x.piece(0, 5), 80);
    }

    private static void promise6Overlap() {
        RopeWalk x = Walks.withPieces(7, 7, 6, 100);
        Due.is("join with one of OVERLAP", x.join(3, 2), RopeWalk.NOT_POSSIBLE);
        Due.is("join one of OVERLAP with another", x.join(2, 3), RopeWalk.NOT_POSSIBLE);
        Due.is("join two just longer", x.join(0, 1), 0);
        Due.is("a joined one is a piece, however short", Walks.lengths(x), "8 6 100 ");
        x.set(RopeWalk.OVERLAP, 5);
        Due.is("join behind a change of OVERLAP", x.join(1, 2), 1);
        Due.is("lengths less 5", Walks.lengths(x), "8 101 ");
    }

    private static void promise6WrongInputs() {
        RopeWalk x = Walks.withPieces(50, 50);
        x.lay(1, 3, 1, 50);
        x.lay(0, 4, 1, 50);
        x.lay(0, 3, 2, 50);
        String before = Walks.seen(x);
        Due.is("join(0, 0)", x.join(0, 0), RopeWalk.NO_SUCH);
        Due.is("join(-1, 0)", x.join(-1, 0), RopeWalk.NO_SUCH);
        Due.is("join(0, -1)", x.join(0, -1), RopeWalk.NO_SUCH);
        Due.is("join(5, 0)", x.join(5, 0), RopeWalk.NO_SUCH);
        Due.is("join(0, 5)", x.join(0, 5), RopeWalk.NO_SUCH);
        Due.is("join of two fibres", x.join(0, 2), RopeWalk.NOT_POSSIBLE);
        Due.is("join of 3 and 4 strands", x.join(0, 3), RopeWalk.NOT_POSSIBLE);
        Due.is("join of 1 and 2 yarns", x.join(0, 4), RopeWalk.NOT_POSSIBLE);
        Due.is("join wrong: nothing changes", Walks.seen(x), before);
    }

    private static void promise7Test() {
        RopeWalk x = Walks.withPieces(100, 60);
        Due.is("test(0)", x.test(0), 300);
        Due.is("tested: length", x.piece(0, 3), 95);
        Due.is("tested: yarn in the piece", x.piece(0, 4), 428);
        Due.is("tested: account", x.account(0, 4), 22);
        Due.is("tested: in pieces", x.account(0, 2), 698);
        Due.is("tested: ends", x.account(0, 5), 0);
        Due.is("tested: spun", x.account(0, 0), 3000000);
        Due.is("test: count(8)", x.count(8), 6);
        x.undo();
        Due.is("test undone", Walks.lengths(x), "100 60 ");
        Due.is("test undone: account", x.account(0, 4), 0);
        x.set(RopeWalk.TEST, 30);
        Due.is("test of 30 feet", x.test(1), 300);
        Due.is("tested: 30 feet less", Walks.lengths(x), "100 30 ");
        Due.is("tested: half of the yarn", x.account(0, 4), 135);
    }

    private static void promise7EndsAndNoLength() {
        RopeWalk x = Walks.withPieces(15, 14, 5, 50);
        Due.is("test leaves SHORTEST", x.test(0), 300);
        Due.is("it stays", Walks.lengths(x), "10 14 5 50 ");
        Due.is("test leaves less than SHORTEST", x.test(1), 300);
        Due.is("it is an end", Walks.lengths(x), "10 5 50 ");
        Due.is("its yarn", x.account(0, 5), 41);
        Due.is("tested till then", x.account(0, 4), 23 + 22);
        Due.is("test of all", x.test(1), 300);
        Due.is("it is gone", Walks.lengths(x), "10 50 ");
        Due.is("no end", x.account(0, 5), 41);
        Due.is("tested, all of it", x.account(0, 4), 45 + 24);
        x.set(RopeWalk.SHORTEST, 60);
        Due.is("no cut, no end", Walks.lengths(x), "10 50 ");
        x.set(RopeWalk.SHORTEST, 1);
        x.set(RopeWalk.TEST, 9);
        x.test(0);
        Due.is("one foot is SHORTEST", Walks.lengths(x), "1 50 ");
    }

    private static void promise7Strength() {
        RopeWalk x = Walks.withPieces(50, 50);
        x.join(0, 1);
        Due.is("test of a spliced piece", x.test(0), 255);
        x.set(RopeWalk.SPLICE, 60);
        Due.is("SPLICE as it is now", x.test(0), 120);
        x.set(RopeWalk.SPLICE, 0);
        Due.is("SPLICE of 0", x.test(0), 300);
        x.fibre(0, 7, 10);
        Due.is("the yarn as it is now", x.test(0), 21);
        // 1.98 is 1 before the splice weakens it
        x = Walks.plain();
        x.fibre(0, 1, 33);
        x.lay(0, 3, 1, 50);
        x.lay(0, 3, 1, 50);
        Due.is("strength rounded down", x.piece(0, 7), 1);
        x.join(0, 1);
        Due.is("strength rounded down twice", x.test(0), 0);
    }

    private static void promise7WrongInputs() {
        RopeWalk x = Walks.withPieces(4, 50);
        Due.is("test(-1)", x.test(-1), RopeWalk.NO_SUCH);
        Due.is("test(2)", x.test(2), RopeWalk.NO_SUCH);
        Due.is("test of one shorter than TEST", x.test(0), RopeWalk.NOT_POSSIBLE);
        x.set(RopeWalk.TEST, 4);
        Due.is("test of one of TEST", x.test(0), 300);
        Due.is("then there is one", x.count(1), 1);
        Due.is("test(1)", x.test(1), RopeWalk.NO_SUCH);
    }

    /** 5 million feet of yarn in a piece, times the length of a part, is more than an int holds. */
    private static void promise7ALotOfYarn() {
        RopeWalk x = Walks.plain();
        x.spin(0, 3000000);
        for (int i = 0; i < 10; i++) {
            x.lay(0, 4, 40, 2000);
            x.pass(1);
            x.join(0, 1);
        }
        Due.is("joined ten", x.piece(0, 3), 19946);
        Due.is("the yarn in it", x.piece(0, 4), 4800000);
        x.order(0, 1, 500, 1, 1, 10);
        x.fill(0);
        Due.is("sold", x.account(0, 3), 120324);
        Due.is("left", x.piece(0, 4), 4679676);
    }

    private static void promise4Brim() {
        Script.run("what is in the store then, 9000000 at most", """
            spin(0, 1) = 1; spin(0, 2999999) = 3000000; spin(0, 3000000) = 6000000; spin(0, 2999999) = 8999999
            spin(0, 2) = NOT_POSSIBLE; spin(0, 3000000) = NOT_POSSIBLE; spin(0, 3000001) = BAD_VALUE; spin(0, 0) = BAD_VALUE
            spin(0, 1) = 9000000; spin(0, 1) = NOT_POSSIBLE; spin(1, 3000000) = 3000000; count(8) = 6""");
    }

    private static void promise5AllLimitsAtOnce() {
        String ready = "set(LAY, 0); set(TWIST, 50); set(WALK, 100); set(SPEED, 100); set(HOURS, 4); spin(0, 1199)\n";
        Script.run("the last foot, the last yarn and the last hour", ready + """
            lay(0, 4, 2, 100) = NOT_POSSIBLE; spin(0, 1) = 1200; lay(0, 4, 2, 101) = NOT_POSSIBLE
            set(WALK, 1000) = 100; lay(0, 4, 2, 101) = NOT_POSSIBLE; set(WALK, 100) = 1000
            set(HOURS, 3) = 4; lay(0, 4, 2, 100) = NOT_POSSIBLE; longest(0, 4, 2) = 75; set(HOURS, 4) = 3; longest(0, 4, 2) = 100
            lay(0, 4, 2, 100) = 0; account(0, 1) = 0; count(3) = 0; piece(0, 4) = 1200""");
        Script.run("one foot of strands too many, and all else there is", ready + """
            spin(0, 9000) = 10199; set(HOURS, 24) = 4; set(LAY, 1) = 0; lay(0, 4, 2, 100) = NOT_POSSIBLE; lay(0, 4, 2, 99) = 0""");
    }

    private static void promise5BothEndsOfEachArgument() {
        Script.run("fibres 0 to 2, strands 3 and 4, yarns 1 to 40, feet 1 to 2000", Walks.plain(), """
            lay(-1, 3, 1, 1) = NO_SUCH; lay(0, 3, 1, 1) = 0; lay(2, 3, 1, 1) = 1; lay(3, 3, 1, 1) = NO_SUCH
            lay(0, 2, 1, 1) = BAD_VALUE; lay(0, 4, 1, 1) = 2; lay(0, 5, 1, 1) = BAD_VALUE
            lay(0, 3, 0, 1) = BAD_VALUE; lay(0, 3, 40, 1) = 3; lay(0, 3, 41, 1) = BAD_VALUE
            lay(0, 3, 1, 0) = BAD_VALUE; lay(0, 3, 1, 2000) = 4; lay(0, 3, 1, 2001) = BAD_VALUE; lengths() = "1 1 1 1 2000"
            piece(0, 4) = 6; piece(1, 0) = 2; piece(2, 4) = 8; piece(3, 4) = 240; piece(4, 4) = 9000""");
    }

    private static void promise6BothTheSameOrNone() {
        Script.run("no such piece, or both are the same", Walks.withPieces(50, 6), """
            join(0, 0) = NO_SUCH; join(1, 1) = NO_SUCH; join(0, 2) = NO_SUCH; join(2, 0) = NO_SUCH; join(2, 2) = NO_SUCH
            join(-1, 0) = NO_SUCH; join(0, -1) = NO_SUCH; join(1, 2) = NO_SUCH; join(1, -1) = NO_SUCH; join(0, 1) = NOT_POSSIBLE
            join(1, 0) = NOT_POSSIBLE; count(8) = 6; lengths() = "50 6";""");
    }

    private static void promise6SplicesOfBothAndOneMore() {
        Script.run("the splices of both, and one more", Walks.withPieces(50, 50, 50, 50, 50, 50, 50), """
            join(0, 1) = 0; piece(0, 6) = 1     // none and none
            join(0, 1) = 0; piece(0, 6) = 2     // one and none
            join(1, 2) = 1; piece(1, 6) = 1; join(1, 2) = 1; piece(1, 6) = 2
            join(2, 1) = 1; piece(1, 6) = 3     // none and two
            join(0, 1) = 0; piece(0, 6) = 6; count(1) = 1; piece(0, 3) = 314; piece(0, 4) = 1575""");
    }

    private static void promise6NothingElseBoundsIt() {
        Script.run("a joined rope may be longer than the walk, and takes no hours and no yarn", Walks.withPieces(2000, 2000), """
            count(3) = 0; set(WALK, 100) = 2000; account(0, 1) = 2982000; join(1, 0) = 0; piece(0, 3) = 3994; piece(0, 4) = 18000
            account(0, 1) = 2982000; account(0, 2) = 18000; account(0, 5) = 0; count(3) = 0; count(1) = 1""");
    }

    private static void promise6YarnOfBoth() {
        Script.run("the yarn of both, also in what overlaps", Walks.withPieces(21, 50), """
            piece(0, 4) = 96; piece(1, 4) = 225; test(0) = 300; piece(0, 4) = 74; join(0, 1) = 0; piece(0, 4) = 299; piece(0, 3) = 60
            account(0, 2) = 299; account(0, 4) = 22; set(OVERLAP, 30) = 6; lay(0, 3, 1, 31) = 1; join(1, 0) = 0
            piece(0, 3) = 61; piece(0, 4) = 440; account(0, 2) = 440; account(0, 5) = 0""");
    }

    private static void promise7AsLongAsTest() {
        Script.run("as long as TEST, a foot shorter, a foot longer", Walks.withPieces(30, 29, 31, 40, 39), """
            set(TEST, 30) = 5; test(1) = NOT_POSSIBLE; test(0) = 300; lengths() = "29 31 40 39"; account(0, 4) = 135; account(0, 5) = 0
            test(1) = 300; lengths() = "29 40 39"; account(0, 5) = 5; test(1) = 300; lengths() = "29 10 39"; account(0, 5) = 5
            test(2) = 300; lengths() = "29 10"; account(0, 5) = 46; test(0) = NOT_POSSIBLE; test(1) = NOT_POSSIBLE; test(2) = NO_SUCH
            set(TEST, 29) = 30; test(0) = 300; lengths() = "10"; test(1) = NO_SUCH; set(TEST, 10) = 29; test(0) = 300; test(0) = NO_SUCH""");
    }

    private static void promise6DifferInOne() {
        Script.run("they differ in fibre, strands or yarns", Walks.plain(), """
            lay(0, 3, 4, 50) = 0; lay(1, 3, 4, 50) = 1; lay(0, 4, 4, 50) = 2; lay(0, 3, 5, 50) = 3; lay(0, 4, 3, 50) = 4; lay(2, 3, 4, 50) = 5
            join(0, 1) = NOT_POSSIBLE; join(0, 2) = NOT_POSSIBLE; join(0, 3) = NOT_POSSIBLE; join(0, 4) = NOT_POSSIBLE; join(4, 0) = NOT_POSSIBLE
            join(5, 0) = NOT_POSSIBLE; join(1, 5) = NOT_POSSIBLE; fewestJoined(0, 51) = NONE; fewestJoined(4, 51) = NONE
            lay(0, 4, 3, 50) = 6; join(6, 0) = NOT_POSSIBLE; join(6, 4) = 4; count(1) = 6""");
    }

    private static void promise6NoLongerThanOverlap() {
        Script.run("one of them is no longer than OVERLAP", Walks.withPieces(7, 6, 5, 1, 100, 7), """
            join(0, 1) = NOT_POSSIBLE; join(1, 0) = NOT_POSSIBLE; join(4, 2) = NOT_POSSIBLE; join(2, 4) = NOT_POSSIBLE; join(3, 4) = NOT_POSSIBLE
            join(4, 3) = NOT_POSSIBLE; join(1, 2) = NOT_POSSIBLE; join(2, 3) = NOT_POSSIBLE; lengths() = "7 6 5 1 100 7"
            join(5, 0) = 0; lengths() = "8 6 5 1 100"; set(OVERLAP, 5) = 6; join(1, 2) = NOT_POSSIBLE; join(4, 1) = 1; lengths() = "8 101 5 1"
            set(OVERLAP, 4) = 5; join(2, 1) = 1; lengths() = "8 102 1"; set(OVERLAP, 1) = 4; join(0, 2) = NOT_POSSIBLE; join(0, 1) = 0; lengths() = "109 1";""");
    }
}
