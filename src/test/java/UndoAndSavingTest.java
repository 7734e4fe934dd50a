/** Promises 27 to 29: undo, save, restore. */
public final class UndoAndSavingTest {
    public static void main(String[] args) {
        promise27Undo();
        promise27EachChange();
        promise27SixStates();
        promise27ErrorsBetween();
        promise27AllPlaces();
        promise27WhatIsNoChange();
        promise28Save();
        promise28WrongInputs();
        promise29Restore();
        promise29WhatIsNotSaved();
        promise29WrongInputs();
        Due.finish("UndoAndSavingTest");
    }

    /** A walk with two changes behind it in which each call of change() does something. */
    private static RopeWalk busy() {
        RopeWalk x = Walks.withPieces(100, 50, 70);
        x.order(0, 10, 20, 2, 0, 5);
        x.order(0, 20, 30, 4, 0, 6);
        x.save(1);
        x.set(RopeWalk.FINE, 77);
        return x;
    }

    private static int change(RopeWalk x, int which) {
        switch (which) {
            case 0: return x.set(RopeWalk.TWIST, 33);
            case 1: return x.fibre(0, 90, 40);
            case 2: return x.spin(1, 100);
            case 3: return x.lay(0, 4, 2, 30);
            case 4: return x.join(0, 2);
            case 5: return x.test(1);
            case 6: return x.order(2, 10, 20, 3, 4, 5);
            case 7: return x.fill(0);
            case 8: return x.drop(1);
            case 9: return x.pass(5);
            case 10: return x.restore(1);
            default:
                Walks.put(x, "d1;t0;f0;j0&1");
                return x.carryOut();
        }
    }

    private static void promise27Undo() {
        RopeWalk x = new RopeWalk();
        Due.is("undo() of nothing", x.undo(), RopeWalk.NOT_POSSIBLE);
        x.spin(0, 10);
        x.spin(0, 20);
        Due.is("undo()", x.undo(), 1);
        Due.is("store", x.account(0, 1), 10);
        Due.is("a new change", x.spin(0, 5), 15);
        Due.is("undo() of it", x.undo(), 1);
        Due.is("store again", x.account(0, 1), 10);
        Due.is("undo() of the first", x.undo(), 0);
        Due.is("store of nothing", x.account(0, 1), 0);
        Due.is("undo() once too often", x.undo(), RopeWalk.NOT_POSSIBLE);
    }

    private static void promise27EachChange() {
        for (int which = 0; which < 12; which++) {
            RopeWalk x = busy();
            String before = Walks.seen(x);
            Due.holds("change " + which + " is carried out", change(x, which) >= 0);
            Due.holds("change " + which + " is seen", !before.equals(Walks.seen(x)));
            String behind = Walks.seen(x);
            Due.is("undo of change " + which, x.undo(), 5);
            Due.is("change " + which + " is undone", Walks.seen(x), before);
            change(x, which);
            Due.is("change " + which + " once more", Walks.seen(x), behind);
        }
    }

    private static void promise27SixStates() {
        RopeWalk x = new RopeWalk();
        String[] states = new String[21];
        for (int i = 0; i < 20; i++) {
            states[i] = Walks.seen(x);
            x.spin(i % 3, 100 + i);
            Due.is("count(8) behind " + (i + 1), x.count(8), Math.min(6, i + 1));
        }
        for (int i = 1; i <= 6; i++) {
            Due.is("undo() number " + i, x.undo(), 6 - i);
            Due.is("state before " + i, Walks.seen(x), states[20 - i]);
            Due.is("count(8)", x.count(8), 6 - i);
        }
        Due.is("the seventh is dropped", x.undo(), RopeWalk.NOT_POSSIBLE);
        Due.is("state as before", Walks.seen(x), states[14]);
    }

    private static void promise27ErrorsBetween() {
        RopeWalk x = new RopeWalk();
        String[] states = new String[10];
        for (int i = 0; i < 10; i++) {
            states[i] = Walks.seen(x);
            x.pass(1);
            x.pass(0);
            x.spin(0, 0);
        }
        for (int i = 9; i > 3; i--) {
            x.join(0, 0);
            x.undo();
            Due.is("state " + i, Walks.seen(x), states[i]);
        }
        Due.is("no more", x.undo(), RopeWalk.NOT_POSSIBLE);
    }

    /** Others take the place of all pieces and orders, and go again. */
    private static void promise27AllPlaces() {
        RopeWalk x = Walks.plain();
        for (int i = 0; i < 12; i++) {
            x.lay(i % 3, 3 + i % 2, 1 + i % 6, 20 + i);
            x.order(i % 3, 1 + i, 2 + i, 3 + i, 4 + 3 * i, 5 + i);
        }
        x.join(0, 6);
        x.save(0);
        String before = Walks.seen(x);
        for (int i = 11; i >= 0; i--) {
            x.drop(i % 4);
        }
        x.set(RopeWalk.SHORTEST, 60);
        for (int i = 0; i < 11; i++) {
            x.test(i % 2 == 0 ? x.count(1) - 1 : 0);
        }
        Due.holds("all pieces and orders are gone", x.count(1) == 0 && x.count(2) == 0);
        for (int i = 0; i < 9; i++) {
            x.lay(2 - i % 3, 4 - i % 2, 20 + i, 50 + i);
            x.order(2 - i % 3, 100 + i, 200 + i, 20 - i, 101 - 3 * i, 500 + i);
        }
        String behind = Walks.seen(x);
        x.restore(0);
        Due.is("restored", Walks.seen(x), before);
        x.undo();
        Due.is("undone", Walks.seen(x), behind);
    }

    private static void promise27WhatIsNoChange() {
        RopeWalk x = busy();
        String before = Walks.seen(x);
        x.put('t');
        x.wipe();
        x.fault();
        x.save(0);
        x.bestSet(0);
        x.wouldFill(0, 0);
        x.count(0);
        x.set(10, 5);
        x.lay(0, 3, 41, 5);
        x.fill(7);
        x.carryOut();
        x.restore(2);
        Due.is("undo()", x.undo(), 5);
        Due.holds("the latest change is undone", !before.equals(Walks.seen(x)));
        Due.is("it was the set", x.count(18), 50);
        Walks.put(x, "d1");
        x.undo();
        Due.is("the pad stays", x.count(7), 2);
        x.spin(0, 1);
        Due.is("restore() of a slot that undo left", x.restore(0), 0);
        Due.is("it is as it was saved", Walks.seen(x), before);
    }

    private static void promise28Save() {
        RopeWalk x = busy();
        x.pass(4);
        String first = Walks.seen(x);
        Due.is("save(0)", x.save(0), 4);
        x.pass(2);
        change(x, 4);
        String second = Walks.seen(x);
        Due.is("save(1)", x.save(1), 6);
        x.pass(1);
        x.restore(0);
        Due.is("slot 0", Walks.seen(x), first);
        x.restore(1);
        Due.is("slot 1", Walks.seen(x), second);
        x.pass(7);
        String third = Walks.seen(x);
        Due.is("save(0) over it", x.save(0), 13);
        x.pass(1);
        x.restore(0);
        Due.is("slot 0 is overwritten", Walks.seen(x), third);
    }

    private static void promise28WrongInputs() {
        RopeWalk x = new RopeWalk();
        Due.is("save(-1)", x.save(-1), RopeWalk.BAD_VALUE);
        Due.is("save(2)", x.save(2), RopeWalk.BAD_VALUE);
        Due.is("save(MAX)", x.save(Integer.MAX_VALUE), RopeWalk.BAD_VALUE);
        Due.is("restore(0) behind them", x.restore(0), RopeWalk.NOT_POSSIBLE);
        Due.is("save(0)", x.save(0), 0);
        Due.is("save is no change", x.count(8), 0);
        Due.is("restore(1)", x.restore(1), RopeWalk.NOT_POSSIBLE);
    }

    private static void promise29Restore() {
        RopeWalk x = busy();
        x.pass(3);
        x.save(0);
        String saved = Walks.seen(x);
        x.drop(0);
        x.test(0);
        x.set(RopeWalk.SHORTEST, 60);
        x.fibre(2, 99, 55);
        x.lay(0, 3, 1, 400);
        x.pass(9);
        String left = Walks.seen(x);
        Due.is("restore(0)", x.restore(0), 3);
        Due.is("restored", Walks.seen(x), saved);
        Due.is("restore: count(8)", x.count(8), 6);
        Due.is("undo of restore", x.undo(), 5);
        Due.is("as before restore", Walks.seen(x), left);
        x.restore(0);
        x.fill(0);
        x.join(0, 1);
        x.restore(0);
        Due.is("the slot keeps it", Walks.seen(x), saved);
    }

    private static void promise29WhatIsNotSaved() {
        RopeWalk x = new RopeWalk();
        x.save(0);
        x.pass(2);
        x.save(1);
        Walks.put(x, "d1;d");
        x.pass(1);
        Due.is("restore(0)", x.restore(0), 0);
        Due.is("the pad stays", x.count(7), 4);
        Due.is("the history stays", x.count(8), 3);
        Due.is("the other slot stays", x.restore(1), 2);
        x.put('3');
        Due.is("the text stays", x.carryOut(), 2);
        Due.is("today", x.count(0), 6);
        Due.is("undo through all", x.undo() + x.undo() + x.undo() + x.undo() + x.undo(), 10);
        Due.is("today as new", x.count(0), 0);
        Due.is("the slots outlast undo", x.restore(1), 2);
    }

    private static void promise29WrongInputs() {
        RopeWalk x = new RopeWalk();
        Due.is("restore(-1)", x.restore(-1), RopeWalk.BAD_VALUE);
        Due.is("restore(2)", x.restore(2), RopeWalk.BAD_VALUE);
        Due.is("restore(0)", x.restore(0), RopeWalk.NOT_POSSIBLE);
        Due.is("restore wrong: count(8)", x.count(8), 0);
    }
}
