/** Promises 1 to 3: a new object, set, fibre. */
public final class SettingUpTest {
    private static final int[] FIRST = {1000, 30, 12, 15, 6, 5, 10, 12, 100, 50};
    private static final int[] LEAST = {100, 10, 0, 0, 1, 1, 1, 1, 10, 0};
    private static final int[] MOST = {2000, 60, 40, 60, 30, 30, 60, 24, 500, 500};

    public static void main(String[] args) {
        promise1NewObject();
        promise1ObjectsShareNothing();
        promise2SetEachSetting();
        promise2WrongInputs();
        promise2HoursBelowThoseUsed();
        promise2IsAChange();
        promise3Fibre();
        promise3WrongInputs();
        promise1NothingIsThere();
        promise2WhatWasUsedStaysKnown();
        promise2PreviousValues();
        promise3ReturnsAtTheEnds();
        Due.finish("SettingUpTest");
    }

    private static void promise1NewObject() {
        RopeWalk x = new RopeWalk();
        int[] all = {0, 0, 0, 12, 0, 0, 0, 0, 0, 1000, 30, 12, 15, 6, 5, 10, 12, 100, 50, 60, 45, 30, 32, 28, 24};
        for (int what = 0; what < all.length; what++) {
            Due.is("new: count(" + what + ")", x.count(what), all[what]);
        }
        for (int fibre = 0; fibre < 3; fibre++) {
            for (int what = 0; what < 6; what++) {
                Due.is("new: account(" + fibre + ", " + what + ")", x.account(fibre, what), 0);
            }
        }
        Due.is("new: piece(0, 0)", x.piece(0, 0), RopeWalk.NO_SUCH);
        Due.is("new: ofOrder(0, 0)", x.ofOrder(0, 0), RopeWalk.NO_SUCH);
        Due.is("new: undo()", x.undo(), RopeWalk.NOT_POSSIBLE);
        Due.is("new: restore(0)", x.restore(0), RopeWalk.NOT_POSSIBLE);
        Due.is("new: restore(1)", x.restore(1), RopeWalk.NOT_POSSIBLE);
        Due.is("new: fault()", x.fault(), 0);
    }

    private static void promise1ObjectsShareNothing() {
        RopeWalk x = new RopeWalk();
        x.set(RopeWalk.FINE, 1);
        x.fibre(2, 7, 11);
        x.spin(1, 500);
        x.put('y');
        x.save(0);
        RopeWalk other = new RopeWalk();
        Due.is("other: count(18)", other.count(18), 50);
        Due.is("other: count(21)", other.count(21), 30);
        Due.is("other: account(1, 1)", other.account(1, 1), 0);
        Due.is("other: count(7)", other.count(7), 0);
        Due.is("other: restore(0)", other.restore(0), RopeWalk.NOT_POSSIBLE);
    }

    private static void promise2SetEachSetting() {
        for (int setting = 0; setting < 10; setting++) {
            RopeWalk x = new RopeWalk();
            String call = "set(" + setting + ", ";
            Due.is(call + "least)", x.set(setting, LEAST[setting]), FIRST[setting]);
            Due.is(call + "least) is there", x.count(9 + setting), LEAST[setting]);
            Due.is(call + "less)", x.set(setting, LEAST[setting] - 1), RopeWalk.BAD_VALUE);
            Due.is(call + "less) is not there", x.count(9 + setting), LEAST[setting]);
            Due.is(call + "most)", x.set(setting, MOST[setting]), LEAST[setting]);
            Due.is(call + "more)", x.set(setting, MOST[setting] + 1), RopeWalk.BAD_VALUE);
            Due.is(call + "more) is not there", x.count(9 + setting), MOST[setting]);
            for (int other = 0; other < 10; other++) {
                if (other != setting) {
                    Due.is(call + "): setting " + other, x.count(9 + other), FIRST[other]);
                }
            }
        }
    }

    private static void promise2WrongInputs() {
        RopeWalk x = new RopeWalk();
        Due.is("set(-1, 50)", x.set(-1, 50), RopeWalk.BAD_VALUE);
        Due.is("set(10, 50)", x.set(10, 50), RopeWalk.BAD_VALUE);
        Due.is("set(MIN, 50)", x.set(Integer.MIN_VALUE, 50), RopeWalk.BAD_VALUE);
        Due.is("set(0, MAX)", x.set(0, Integer.MAX_VALUE), RopeWalk.BAD_VALUE);
        Due.is("set(9, MIN)", x.set(9, Integer.MIN_VALUE), RopeWalk.BAD_VALUE);
        Due.is("count(8) behind errors", x.count(8), 0);
    }

    private static void promise2HoursBelowThoseUsed() {
        RopeWalk x = new RopeWalk();
        x.spin(0, 60000);
        x.lay(0, 3, 4, 100);
        Due.is("hours left of 12", x.count(3), 8);
        x.set(RopeWalk.HOURS, 3);
        Due.is("hours left of 3", x.count(3), 0);
        Due.is("lay without hours", x.lay(0, 3, 1, 1), RopeWalk.NOT_POSSIBLE);
        x.set(RopeWalk.HOURS, 4);
        Due.is("hours left of 4", x.count(3), 0);
        x.set(RopeWalk.HOURS, 10);
        Due.is("hours left of 10", x.count(3), 6);
        x.set(RopeWalk.HOURS, 2);
        x.pass(1);
        Due.is("hours left of 2 next day", x.count(3), 2);
    }

    private static void promise2IsAChange() {
        RopeWalk x = new RopeWalk();
        x.set(RopeWalk.WALK, 1000);
        Due.is("set() to what it was: count(8)", x.count(8), 1);
        x.set(RopeWalk.WALK, 1500);
        Due.is("undo() of set", x.undo(), 1);
        Due.is("WALK as before", x.count(9), 1000);
    }

    private static void promise3Fibre() {
        RopeWalk x = new RopeWalk();
        Due.is("fibre(0, 1, 10)", x.fibre(0, 1, 10), 6032);
        Due.is("fibre(0, 200, 60)", x.fibre(0, 200, 60), 110);
        Due.is("fibre(1, 50, 30)", x.fibre(1, 50, 30), 4528);
        Due.is("fibre(2, 31, 25)", x.fibre(2, 31, 25), 3024);
        int[] all = {200, 50, 31, 60, 30, 25};
        for (int i = 0; i < all.length; i++) {
            Due.is("fibre: count(" + (19 + i) + ")", x.count(19 + i), all[i]);
        }
        Due.is("fibre: count(8)", x.count(8), 4);
        x.undo();
        Due.is("undo of fibre", x.count(21), 30);
        Due.is("undo of fibre, twist", x.count(24), 24);
    }

    private static void promise3WrongInputs() {
        RopeWalk x = new RopeWalk();
        Due.is("fibre(-1, 50, 30)", x.fibre(-1, 50, 30), RopeWalk.NO_SUCH);
        Due.is("fibre(3, 0, 0)", x.fibre(3, 0, 0), RopeWalk.NO_SUCH);
        Due.is("fibre(0, 0, 30)", x.fibre(0, 0, 30), RopeWalk.BAD_VALUE);
        Due.is("fibre(0, 201, 30)", x.fibre(0, 201, 30), RopeWalk.BAD_VALUE);
        Due.is("fibre(0, 50, 9)", x.fibre(0, 50, 9), RopeWalk.BAD_VALUE);
        Due.is("fibre(0, 50, 61)", x.fibre(0, 50, 61), RopeWalk.BAD_VALUE);
        Due.is("fibre wrong: count(19)", x.count(19), 60);
        Due.is("fibre wrong: count(22)", x.count(22), 32);
        Due.is("fibre wrong: count(8)", x.count(8), 0);
    }

    private static void promise1NothingIsThere() {
        Script.run("a rope walk without yarn, pieces and orders", """
            longest(0, 3, 1) = NONE; lay(0, 3, 1, 1) = NOT_POSSIBLE; join(0, 1) = NO_SUCH; join(0, 0) = NO_SUCH; test(0) = NO_SUCH
            fill(0) = NO_SUCH; drop(0) = NO_SUCH; wouldFill(0, 0) = NO_SUCH; fewestJoined(0, 1) = NO_SUCH
            bestSet(0) = 0; bestSet(1) = 0; finesIn(200) = 0; wipe() = 0; fault() = 0; carryOut() = BAD_TEXT; count(8) = 0
            pass(1) = 1; count(6) = 0; order(0, 1, 1, 1, 0, 0) = 0; fill(0) = NOT_POSSIBLE; bestSet(0) = 0; bestSet(1) = 0""");
    }

    private static void promise2WhatWasUsedStaysKnown() {
        Script.run("HOURS at and below what was used today", Walks.plain(), """
            lay(0, 4, 1, 2000) = 0; count(3) = 8
            set(HOURS, 17) = 24; count(3) = 1; set(HOURS, 16) = 17; count(3) = 0; lay(0, 3, 1, 1) = NOT_POSSIBLE; longest(0, 3, 1) = NONE
            set(HOURS, 15) = 16; count(3) = 0; set(HOURS, 1) = 15; count(3) = 0; longest(0, 3, 1) = NONE
            set(HOURS, 17) = 1; count(3) = 1; longest(0, 3, 1) = 166; lay(0, 3, 1, 166) = 1; count(3) = 0
            set(HOURS, 1) = 17; lay(0, 3, 1, 1) = NOT_POSSIBLE; set(HOURS, 24) = 1; count(3) = 7""");
        Script.run("what was used is known behind undo, save and restore", Walks.plain(), """
            lay(0, 4, 1, 2000) = 0; set(HOURS, 3) = 24; save(0) = 0; undo() = 5; count(3) = 8; pass(1) = 1; count(3) = 24
            restore(0) = 0; count(3) = 0; set(HOURS, 18) = 3; count(3) = 2; undo() = 5; undo() = 4; count(3) = 24
            restore(0) = 0; pass(1) = 1; count(3) = 3""");
    }

    private static void promise2PreviousValues() {
        for (int setting = 0; setting < 10; setting++) {
            RopeWalk x = new RopeWalk();
            String call = "set(" + setting + ", ..)";
            Due.is(call + " to the same", x.set(setting, FIRST[setting]), FIRST[setting]);
            Due.is(call + " to the most", x.set(setting, MOST[setting]), FIRST[setting]);
            Due.is(call + " that is refused", x.set(setting, Integer.MAX_VALUE), RopeWalk.BAD_VALUE);
            Due.is(call + " to the least", x.set(setting, LEAST[setting]), MOST[setting]);
            Due.is(call + " that is refused", x.set(setting, Integer.MIN_VALUE), RopeWalk.BAD_VALUE);
            Due.is(call + " to the most again", x.set(setting, MOST[setting]), LEAST[setting]);
            Due.is(call + ": changes", x.count(8), 4);
        }
    }

    private static void promise3ReturnsAtTheEnds() {
        Script.run("100 times the strength before, plus the best twist before", """
            fibre(2, 200, 60) = 3024; fibre(2, 1, 10) = 20060; fibre(2, 200, 10) = 110; fibre(2, 1, 60) = 20010; fibre(2, 1, 60) = 160
            fibre(2, 0, 60) = BAD_VALUE; fibre(2, 201, 60) = BAD_VALUE; fibre(2, 1, 9) = BAD_VALUE; fibre(2, 1, 61) = BAD_VALUE
            fibre(3, 201, 9) = NO_SUCH; fibre(-1, 1, 60) = NO_SUCH; fibre(2, 30, 24) = 160; count(19) = 60; count(20) = 45; count(22) = 32""");
    }
}
