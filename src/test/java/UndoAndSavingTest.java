/** Promises 27 to 29: undo, save, restore. */
public final class UndoAndSavingTest {
    public static void main(String[] args) {
        promise27Undo();
        promise27EachChange();
        promise27SixStates();
        promise27ErrorsBetween();
        promise27AllPlaces();
        promise27WhatIsNoChange();
        promise28Save();
        promise28Overwrites();
        promise28WrongInputs();
        promise29Restore();
        promise29WhatIsNotSaved();
        promise29WrongInputs();
        promise27RecordsAlsoIfNothingIsDifferent();
        promise27PadAndSlotsStay();
        promise28TwoSlots();
        promise29NothingWasSaved();
        promise29IsAChange();
        Due.finish("UndoAndSavingTest");
    }

    /** A walk with two changes behind it in which each call of change() does something. */
    private static RopeWalk busy() {
        RopeWalk x = Walks.withPieces(100, 50, 70);
        x.order(0, 10, 20, 2, 0, 5);
        x.order(0, 20, 30, 4, 0, 6);
        x.save(1);
        x.set(RopeWalk.FINE, 77);
        return x;
    }

    private static int change(RopeWalk x, int which) {
        switch (which) {
            case 0: return x.set(RopeWalk.TWIST, 33);
            case 1: return x.fibre(0, 90, 40);
            case 2: return x.spin(1, 100);
            case 3: return x.lay(0, 4, 2, 30);
            case 4: return x.join(0, 2);
            case 5: return x.test(1);
            case 6: return x.order(2, 10, 20, 3, 4, 5);
            case 7: return x.fill(0);
            case 8: return x.drop(1);
            case 9: return x.pass(5);
            case 10: return x.restore(1);
            default:
                Walks.put(x, "d1;t0;f0;j0&1");
                return x.carryOut();
        }
    }

    private static void promise27Undo() {
        RopeWalk x = new RopeWalk();
        Due.is("undo() of nothing", x.undo(), RopeWalk.NOT_POSSIBLE);
        x.spin(0, 10);
        x.spin(0, 20);
        Due.is("undo()", x.undo(), 1);
        Due.is("store", x.account(0, 1), 10);
        Due.is("a new change", x.spin(0, 5), 15);
        Due.is("undo() of it", x.undo(), 1);
        Due.is("store again", x.account(0, 1), 10);
        Due.is("undo() of the first", x.undo(), 0);
        Due.is("store of nothing", x.account(0, 1), 0);
        Due.is("undo() once too often", x.undo(), RopeWalk.NOT_POSSIBLE);
    }

    private static void promise27EachChange() {
        for (int which = 0; which < 12; which++) {
            RopeWalk x = busy();
            String before = Walks.seen(x);
            Due.holds("change " + which + " is carried out", change(x, which) >= 0);
            Due.holds("change " + which + " is seen", !before.equals(Walks.seen(x)));
            String behind = Walks.seen(x);
            Due.is("undo of change " + which, x.undo(), 5);
            Due.is("change " + which + " is undone", Walks.seen(x), before);
            change(x, which);
            Due.is("change " + which + " once more", Walks.seen(x), behind);
        }
    }

    private static void promise27SixStates() {
        RopeWalk x = new RopeWalk();
        String[] states = new String[21];
        for (int i = 0; i < 20; i++) {
            states[i] = stores(x);
            x.spin(i % 3, 100 + i);
            Due.is("count(8) behind " + (i + 1), x.count(8), Math.min(6, i + 1));
        }
        for (int i = 1; i <= 6; i++) {
            Due.is("undo() number " + i, x.undo(), 6 - i);
            Due.is("state before " + i, stores(x), states[20 - i]);
            Due.is("count(8)", x.count(8), 6 - i);
        }
        Due.is("the seventh is dropped", x.undo(), RopeWalk.NOT_POSSIBLE);
        Due.is("state as before", stores(x), states[14]);
    }

    private static String stores(RopeWalk x) {
        return x.account(0, 1) + " " + x.account(1, 1) + " " + x.account(2, 1);
    }

    private static void promise27ErrorsBetween() {
        RopeWalk x = new RopeWalk();
        for (int i = 0; i < 10; i++) {
            x.pass(1);
            x.pass(0);
            x.spin(0, 0);
        }
        for (int i = 9; i > 3; i--) {
            x.join(0, 0);
            x.undo();
            Due.is("today, state " + i, x.count(0), i);
        }
        Due.is("no more", x.undo(), RopeWalk.NOT_POSSIBLE);
    }

    /** Others take the place of all pieces and orders, and go again. */
    private static void promise27AllPlaces() {
        String before = Walks.seen(crowded());
        String behind = Walks.seen(crowdedAgain());
        RopeWalk x = crowdedAgain();
        Due.holds("others have come", !before.equals(behind));
        x.restore(0);
        Due.is("restored", Walks.seen(x), before);
        x = crowdedAgain();
        x.restore(0);
        x.undo();
        Due.is("undone", Walks.seen(x), behind);
    }

    private static RopeWalk crowded() {
        RopeWalk x = Walks.plain();
        for (int i = 0; i < 12; i++) {
            x.lay(i % 3, 3 + i % 2, 1 + i % 6, 20 + i);
            x.order(i % 3, 1 + i, 2 + i, 3 + i, 4 + 3 * i, 5 + i);
        }
        x.join(0, 6);
        x.save(0);
        return x;
    }

    private static RopeWalk crowdedAgain() {
        RopeWalk x = crowded();
        for (int i = 11; i >= 0; i--) {
            x.drop(i % 4);
        }
        x.set(RopeWalk.SHORTEST, 60);
        for (int i = 0; i < 11; i++) {
            x.test(i % 2 == 0 ? x.count(1) - 1 : 0);
        }
        Due.holds("all pieces and orders are gone", x.count(1) == 0 && x.count(2) == 0);
        for (int i = 0; i < 9; i++) {
            x.lay(2 - i % 3, 4 - i % 2, 20 + i, 50 + i);
            x.order(2 - i % 3, 100 + i, 200 + i, 20 - i, 101 - 3 * i, 500 + i);
        }
        return x;
    }

    private static void promise27WhatIsNoChange() {
        RopeWalk x = busy();
        String before = Walks.seen(x);
        x.put('t');
        x.wipe();
        x.fault();
        x.save(0);
        x.bestSet(0);
        x.wouldFill(0, 0);
        x.count(0);
        x.set(10, 5);
        x.lay(0, 3, 41, 5);
        x.fill(7);
        x.carryOut();
        x.restore(2);
        Due.is("undo()", x.undo(), 5);
        Due.holds("the latest change is undone", !before.equals(Walks.seen(x)));
        Due.is("it was the set", x.count(18), 50);
        Walks.put(x, "d1");
        x.undo();
        Due.is("the pad stays", x.count(7), 2);
        x.spin(0, 1);
        Due.is("restore() of a slot that undo left", x.restore(0), 0);
        Due.is("it is as it was saved", Walks.seen(x), before);
    }

    private static void promise28Save() {
        RopeWalk x = busy();
        x.pass(4);
        String first = Walks.seen(x);
        Due.is("save(0)", x.save(0), 4);
        x.pass(2);
        change(x, 4);
        String second = Walks.seen(x);
        Due.is("save(1)", x.save(1), 6);
        x.pass(1);
        x.restore(0);
        Due.is("slot 0", Walks.seen(x), first);
        x.restore(1);
        Due.is("slot 1", Walks.seen(x), second);
    }

    private static void promise28Overwrites() {
        RopeWalk x = busy();
        x.save(0);
        x.pass(7);
        change(x, 4);
        String saved = Walks.seen(x);
        Due.is("save(0) over it", x.save(0), 7);
        x.pass(1);
        Due.is("restore(0)", x.restore(0), 7);
        Due.is("slot 0 is overwritten", Walks.seen(x), saved);
    }

    private static void promise28WrongInputs() {
        RopeWalk x = new RopeWalk();
        Due.is("save(-1)", x.save(-1), RopeWalk.BAD_VALUE);
        Due.is("save(2)", x.save(2), RopeWalk.BAD_VALUE);
        Due.is("save(MAX)", x.save(Integer.MAX_VALUE), RopeWalk.BAD_VALUE);
        Due.is("restore(0) behind them", x.restore(0), RopeWalk.NOT_POSSIBLE);
        Due.is("save(0)", x.save(0), 0);
        Due.is("save is no change", x.count(8), 0);
        Due.is("restore(1)", x.restore(1), RopeWalk.NOT_POSSIBLE);
    }

    private static void promise29Restore() {
        RopeWalk x = busy();
        x.pass(3);
        x.save(0);
        String saved = Walks.seen(x);
        x.drop(0);
        x.test(0);
        x.set(RopeWalk.SHORTEST, 60);
        x.fibre(2, 99, 55);
        x.lay(0, 3, 1, 400);
        x.pass(9);
        String left = Walks.seen(x);
        Due.is("restore(0)", x.restore(0), 3);
        Due.is("restored", Walks.seen(x), saved);
        Due.is("restore: count(8)", x.count(8), 6);
        Due.is("undo of restore", x.undo(), 5);
        Due.is("as before restore", Walks.seen(x), left);
        x.restore(0);
        x.fill(0);
        x.join(0, 1);
        x.restore(0);
        Due.is("the slot keeps it", Walks.seen(x), saved);
    }

    private static void promise29WhatIsNotSaved() {
        RopeWalk x = new RopeWalk();
        x.save(0);
        x.pass(2);
        x.save(1);
        Walks.put(x, "d1;d");
        x.pass(1);
        Due.is("restore(0)", x.restore(0), 0);
        Due.is("the pad stays", x.count(7), 4);
        Due.is("the history stays", x.count(8), 3);
        Due.is("the other slot stays", x.restore(1), 2);
        x.put('3');
        Due.is("the text stays", x.carryOut(), 2);
        Due.is("today", x.count(0), 6);
        Due.is("undo through all", x.undo() + x.undo() + x.undo() + x.undo() + x.undo(), 10);
        Due.is("today as new", x.count(0), 0);
        Due.is("the slots outlast undo", x.restore(1), 2);
    }

    private static void promise29WrongInputs() {
        RopeWalk x = new RopeWalk();
        Due.is("restore(-1)", x.restore(-1), RopeWalk.BAD_VALUE);
        Due.is("restore(2)", x.restore(2), RopeWalk.BAD_VALUE);
        Due.is("restore(0)", x.restore(0), RopeWalk.NOT_POSSIBLE);
        Due.is("restore wrong: count(8)", x.count(8), 0);
    }

    private static void promise27RecordsAlsoIfNothingIsDifferent() {
        Script.run("a change records the state also if nothing is different then", """
            set(FINE, 50) = 50; count(8) = 1; fibre(0, 60, 32) = 6032; count(8) = 2; put("t0") = 2; carryOut() = 0; count(8) = 3
            save(0) = 0; restore(0) = 0; count(8) = 4; undo() = 3; undo() = 2; undo() = 1; undo() = 0; undo() = NOT_POSSIBLE""");
        Script.run("states that are the same take their places too", """
            pass(1) = 1; 5 * set(FINE, 50); count(8) = 6; set(FINE, 50) = 50; count(8) = 6; 6 * undo(); count(0) = 1; undo() = NOT_POSSIBLE""");
    }

    private static void promise27PadAndSlotsStay() {
        Script.run("the pad, the slots and the history stay", """
            pass(5) = 5; put("d1;") = 3; save(1) = 5; undo() = 0; count(0) = 0; count(7) = 3; put("d2") = 5; carryOut() = 2; count(0) = 3
            put("d3") = 2; undo() = 0; count(0) = 0; count(7) = 2; carryOut() = 1; count(0) = 3; restore(1) = 5; undo() = 1; count(0) = 3
            undo() = 0; undo() = NOT_POSSIBLE; restore(1) = 5; restore(0) = NOT_POSSIBLE; count(8) = 1""");
    }

    private static void promise28TwoSlots() {
        Script.run("slots 0 and 1", """
            save(-1) = BAD_VALUE; save(2) = BAD_VALUE; save(MIN) = BAD_VALUE; save(MAX) = BAD_VALUE; save(0) = 0; pass(3) = 3; save(1) = 3; pass(4) = 7
            count(8) = 2; restore(0) = 0; restore(1) = 3; save(0) = 3; pass(1) = 4; restore(0) = 3; pass(2) = 5; save(1) = 5; restore(0) = 3
            restore(1) = 5; count(0) = 5""");
        Script.run("what is saved in a slot is not what comes then", Walks.withPieces(50, 60), """
            order(0, 1, 20, 2, 0, 5) = 0; save(1) = 0; join(0, 1) = 0; drop(0) = 100; spin(0, 9); fibre(0, 1, 10); set(SPLICE, 60); lay(0, 3, 1, 70) = 1
            restore(1) = 0; lengths() = "50 60"; ofOrder(0, 3) = 2; count(6) = 0; count(19) = 100; count(12) = 15; account(0, 1) = 2999505
            fill(0) = 2; restore(1) = 0; lengths() = "50 60"; ofOrder(0, 3) = 2; count(4) = 0; piece(0, 4) = 225""");
    }

    private static void promise29NothingWasSaved() {
        Script.run("restore of a slot in which nothing was saved", """
            restore(0) = NOT_POSSIBLE; restore(1) = NOT_POSSIBLE; restore(-1) = BAD_VALUE; restore(2) = BAD_VALUE; restore(MIN) = BAD_VALUE
            restore(MAX) = BAD_VALUE; save(1) = 0; restore(0) = NOT_POSSIBLE; count(8) = 0; restore(1) = 0; count(8) = 1; restore(0) = NOT_POSSIBLE
            save(0) = 0; restore(0) = 0; restore(2) = BAD_VALUE; count(8) = 2; undo() = 1; undo() = 0; restore(0) = 0""");
    }

    private static void promise29IsAChange() {
        Script.run("restore is a change, and the slot keeps it", """
            pass(1) = 1; save(0) = 1; pass(1) = 2; restore(0) = 1; count(8) = 3; undo() = 2; count(0) = 2; restore(0) = 1; restore(0) = 1; count(8) = 4
            pass(9) = 10; restore(0) = 1; restore(0) = 1; count(8) = 6; undo() = 5; count(0) = 1; undo() = 4; count(0) = 10; undo() = 3; count(0) = 1
            undo() = 2; count(0) = 1; undo() = 1; count(0) = 2; undo() = 0; count(0) = 1; undo() = NOT_POSSIBLE""");
    }
}
