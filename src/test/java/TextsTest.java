/** Promises 23 to 26: put, wipe, fault, carryOut. */
public final class TextsTest {
    public static void main(String[] args) {
        promise23Put();
        promise23OrderOfCharacters();
        promise23WrongInputs();
        promise23TooMany();
        promise24Wipe();
        promise25GoodTexts();
        promise25Faults();
        promise25EachPlace();
        promise26CarryOut();
        promise26EachJob();
        promise26UpToTheFirstError();
        promise26BadText();
        promise26IsOneChange();
        promise23EachCodeAtEachPlace();
        promise23NothingAboveTheFirst();
        promise24EmptyAndFull();
        promise25NumbersAtEachPlace();
        promise25EachBeginning();
        promise25OfThePadAsItIs();
        promise26AnswersOfZero();
        promise26EachErrorStops();
        promise26TheLastJob();
        Due.finish("TextsTest");
    }

    private static int faultOf(String text) {
        RopeWalk x = new RopeWalk();
        Walks.put(x, text);
        return x.fault();
    }

    private static void promise23Put() {
        RopeWalk x = new RopeWalk();
        Due.is("put of one", x.put('t'), 1);
        Due.is("put of two", x.put('1' << 8 | ';'), 3);
        Due.is("put of eight", x.put(Walks.packed("y0+12345")), 11);
        Due.is("count(7)", x.count(7), 11);
        Due.is("fault of it", x.fault(), RopeWalk.NONE);
        Due.is("put is no change", x.count(8), 0);
        Due.is("put of code 33", x.put(33), 12);
        Due.is("put of code 126", x.put(126), 13);
    }

    private static void promise23OrderOfCharacters() {
        RopeWalk x = new RopeWalk();
        x.put(Walks.packed("l1:3x4"));
        x.put(Walks.packed("=56;d7"));
        Due.is("fault", x.fault(), RopeWalk.NONE);
        x.spin(1, 5000);
        Due.is("carryOut()", x.carryOut(), 2);
        Due.is("fibre", x.piece(0, 0), 1);
        Due.is("strands", x.piece(0, 1), 3);
        Due.is("yarns", x.piece(0, 2), 4);
        Due.is("length", x.piece(0, 3), 56);
        Due.is("today", x.count(0), 7);
    }

    private static void promise23WrongInputs() {
        RopeWalk x = new RopeWalk();
        long[] wrong = {
            0, 32, 127, 128, 255, 1, 't' << 8, 0x740074L, 0x7400007474L, 0x7400000000000000L, 0x7400000000000074L,
            -1L, Long.MIN_VALUE, Long.MIN_VALUE | 't', 0x2074L, 0x7F74L, 0x7420L, 0x747FL, 0x8074747474747474L,
            0x2074747474747474L, 0x1F74747474747474L, 0x7F74747474747474L, 0x0100000000000074L
        };
        for (long characters : wrong) {
            Due.is("put(" + Long.toHexString(characters) + ")", x.put(characters), RopeWalk.BAD_VALUE);
        }
        Due.is("put wrong: count(7)", x.count(7), 0);
        Due.is("put of code 126 in front", x.put(0x7E74747474747474L), 8);
        Due.is("put of code 33 in front", x.put(0x2174747474747474L), 16);
        Due.is("put of seven", x.put(0x74747474747474L), 23);
    }

    private static void promise23TooMany() {
        RopeWalk x = new RopeWalk();
        for (int i = 1; i <= 9; i++) {
            Due.is("put of eight", x.put(0x7474747474747474L), 8 * i);
        }
        Due.is("put of seven", x.put(0x74747474747474L), 79);
        Due.is("put of two, one too many", x.put(0x7474), RopeWalk.TOO_MANY);
        Due.is("the pad stays", x.count(7), 79);
        Due.is("put of none", x.put(0), RopeWalk.BAD_VALUE);
        Due.is("put of the last", x.put(0x74), 80);
        Due.is("put of one too many", x.put(0x74), RopeWalk.TOO_MANY);
        Due.is("put of a wrong one too many", x.put(0x20), RopeWalk.BAD_VALUE);
        Due.is("the pad is full", x.count(7), 80);
        Due.is("fault of a full pad", x.fault(), 1);
    }

    private static void promise24Wipe() {
        RopeWalk x = new RopeWalk();
        Due.is("wipe of an empty pad", x.wipe(), 0);
        Walks.put(x, "d1;d2;d3");
        x.put('!');
        Due.is("wipe()", x.wipe(), 9);
        Due.is("wiped: count(7)", x.count(7), 0);
        Due.is("wiped: fault()", x.fault(), 0);
        Due.is("wipe is no change", x.count(8), 0);
        Walks.put(x, "d4");
        Due.is("a new text", x.carryOut(), 1);
        Due.is("it alone", x.count(0), 4);
    }

    private static void promise25GoodTexts() {
        String[] good = {
            "y0+0", "y2+99999", "l1:3x4=5", "l0:4x40=2000", "l2:3x0=0", "j0&1", "j99999&0", "t0", "f15", "d60", "d1;d2",
            "y0+1;l0:3x1=1;j0&1;t0;f0;d1", "t0;t0;t0;t0;t0;t0;t0;t0;t0;t0;t0;t0;t0;t0;t0;t0;t0;t0;t0;t0;t0;t0;t0;t0;t0;t0;t0",
            "l2:4x99999=99999;l2:4x99999=99999;l2:4x99999=99999;l2:4x99999=99999;y1+99999;d10"
        };
        for (String text : good) {
            Due.is("fault of " + text, faultOf(text), RopeWalk.NONE);
        }
    }

    private static void promise25Faults() {
        Object[][] faults = {
            {"", 0}, {"x", 0}, {"Y0+1", 0}, {"0", 0}, {";", 0}, {";t0", 0}, {"=", 0},
            {"y", 1}, {"y3", 1}, {"y0", 2}, {"y0:1", 2}, {"y0+", 3}, {"y0+x", 3}, {"y0++", 3}, {"y00", 2},
            {"y0+01", 4}, {"y0+00", 4}, {"y0+1x", 4}, {"y0+100000", 8}, {"y0+123456", 8},
            {"l", 1}, {"l3", 1}, {"l0", 2}, {"l0+", 2}, {"l0:", 3}, {"l0:2", 3}, {"l0:5", 3}, {"l0:3", 4}, {"l0:33", 4},
            {"l0:3X", 4}, {"l0:3x", 5}, {"l0:3x=", 5}, {"l0:3x1", 6}, {"l0:3x1;", 6}, {"l0:3x01", 6}, {"l0:3x1=", 7},
            {"l0:3x1==", 7}, {"l0:3x100000=1", 10}, {"l0:3x1=05", 8}, {"l0:4x1=1=", 8},
            {"j", 1}, {"j&", 1}, {"j1", 2}, {"j1;", 2}, {"j1&", 3}, {"j1&&", 3}, {"j00&", 2}, {"j1&02", 4}, {"j1+2", 2},
            {"t", 1}, {"t-1", 1}, {"t1t2", 2}, {"t1;", 3}, {"t1;;", 3}, {"t1;;t2", 3}, {"t1,t2", 2},
            {"f", 1}, {"f00", 2}, {"d", 1}, {"d1;y", 4}, {"d1;x", 3}, {"d1;d01", 5}, {"d1;d2;d3;q4", 9}
        };
        for (Object[] fault : faults) {
            Due.is("fault of " + fault[0], faultOf((String) fault[0]), (Integer) fault[1]);
        }
        String full = "l2:4x99999=99999;l2:4x99999=99999;l2:4x99999=99999;l2:4x99999=99999;y1+99999;d1;";
        Due.is("fault behind a full pad", faultOf(full), 80);
    }

    /** Every character at every place: it can stand there if the text that ends with it has no fault, or at its end. */
    private static void promise25EachPlace() {
        String text = "y0+1;l0:3x1=10;j0&1;t0;f0;d1";
        String[] next = {
            "yljtfd", "012", "+", "0123456789", "0123456789;", "yljtfd", "012", ":", "34", "x", "0123456789",
            "0123456789=", "0123456789", "0123456789;", "0123456789;", "yljtfd", "0123456789", "&", "0123456789",
            "0123456789;", "yljtfd", "0123456789", ";", "yljtfd", "0123456789", ";", "yljtfd", "0123456789"
        };
        for (int i = 0; i < text.length(); i++) {
            for (char sign = 33; sign <= 126; sign++) {
                int fault = faultOf(text.substring(0, i) + sign);
                boolean stands = next[i].indexOf(sign) >= 0;
                Due.holds(text.substring(0, i) + sign, stands == (fault == RopeWalk.NONE || fault == i + 1));
                Due.holds(text.substring(0, i) + sign + ": at its index", stands || fault == i);
            }
        }
    }

    private static void promise26CarryOut() {
        RopeWalk x = new RopeWalk();
        Walks.put(x, "y0+60000;l0:3x4=100;l0:3x4=50;j0&1;t0;d2");
        Due.is("carryOut()", x.carryOut(), 6);
        Due.is("the pad is empty", x.count(7), 0);
        Due.is("pieces", Walks.lengths(x), "139 ");
        Due.is("tested", x.account(0, 4) > 0 ? 1 : 0, 1);
        Due.is("today", x.count(0), 2);
        Due.is("one change", x.count(8), 1);
        Due.is("undo()", x.undo(), 0);
        Due.is("all undone: pieces", x.count(1), 0);
        Due.is("all undone: spun", x.account(0, 0), 0);
        Due.is("all undone: today", x.count(0), 0);
        Due.is("undo brings no pad back", x.count(7), 0);
    }

    private static void promise26EachJob() {
        String[] jobs = {"y1+70", "l1:4x2=31", "j2&0", "t1", "f1", "d3", "f0;f0;t0;j0&1"};
        for (int i = 0; i < jobs.length; i++) {
            RopeWalk one = someWalk();
            RopeWalk other = someWalk();
            Walks.put(one, jobs[i]);
            int done = one.carryOut();
            switch (i) {
                case 0: other.spin(1, 70); break;
                case 1: other.lay(1, 4, 2, 31); break;
                case 2: other.join(2, 0); break;
                case 3: other.test(1); break;
                case 4: other.fill(1); break;
                case 5: other.pass(3); break;
                default:
                    other.fill(0);
                    other.fill(0);
                    other.test(0);
                    other.join(0, 1);
            }
            Due.is("jobs of " + jobs[i], done, i < 6 ? 1 : 4);
            Due.is("behind " + jobs[i], Walks.seen(one), Walks.seen(other));
        }
    }

    private static RopeWalk someWalk() {
        RopeWalk x = Walks.withPieces(100, 50, 70);
        x.order(0, 10, 20, 2, 0, 5);
        x.order(0, 20, 30, 4, 0, 6);
        return x;
    }

    private static void promise26UpToTheFirstError() {
        RopeWalk x = new RopeWalk();
        Walks.put(x, "d1;d0;d2");
        Due.is("carryOut() with a wrong value", x.carryOut(), 1);
        Due.is("today", x.count(0), 1);
        Due.is("the pad is empty", x.count(7), 0);
        String[] wrong = {"y0+0", "l0:3x1=10", "l0:3x0=1", "j0&1", "t0", "t99999", "f0", "d61", "d99999"};
        for (String job : wrong) {
            Walks.put(x, job + ";d1");
            Due.is("carryOut() of " + job, x.carryOut(), 0);
            Due.is("it empties the pad", x.count(7), 0);
        }
        Due.is("nothing else came", x.count(0), 1);
        Walks.put(x, "y0+99999;t0;y0+1");
        Due.is("carryOut() up to a piece that is not there", x.carryOut(), 1);
        Due.is("what was carried out stays", x.account(0, 0), 99999);
    }

    private static void promise26BadText() {
        RopeWalk x = new RopeWalk();
        Due.is("carryOut() of an empty pad", x.carryOut(), RopeWalk.BAD_TEXT);
        Walks.put(x, "d1;d2;");
        Due.is("carryOut() of a text that ends too early", x.carryOut(), RopeWalk.BAD_TEXT);
        Due.is("no job is carried out", x.count(0), 0);
        Due.is("the pad stays", x.count(7), 6);
        Due.is("nothing is recorded", x.count(8), 0);
        x.put('d' << 8 | '3');
        Due.is("carryOut() of the whole text", x.carryOut(), 3);
        Due.is("today", x.count(0), 6);
        Walks.put(x, "d1;d2;d01");
        Due.is("carryOut() with a fault behind", x.carryOut(), RopeWalk.BAD_TEXT);
        Due.is("no job of it", x.count(0), 6);
    }

    private static void promise26IsOneChange() {
        RopeWalk x = new RopeWalk();
        x.pass(1);
        Walks.put(x, "t0");
        Due.is("carryOut() of none", x.carryOut(), 0);
        Due.is("it is a change", x.count(8), 2);
        Walks.put(x, "d1;d1;d1;d1;d1;d1;d1;d1");
        Due.is("carryOut() of eight", x.carryOut(), 8);
        Due.is("it is one change", x.count(8), 3);
        Due.is("undo of eight", x.undo(), 2);
        Due.is("today", x.count(0), 1);
        Due.is("undo of none", x.undo(), 1);
        Due.is("today as before", x.count(0), 1);
        Due.is("undo of pass", x.undo(), 0);
        Due.is("today is 0", x.count(0), 0);
    }

    /** Of one to eight characters each may be 33 to 126; a 0 may stand in front of them alone. */
    private static void promise23EachCodeAtEachPlace() {
        int[] wrong = {1, 9, 32, 127, 128, 160, 255};
        for (int many = 1; many <= 8; many++) {
            long good = Walks.packed("tttttttt".substring(0, many));
            for (int place = 0; place < many; place++) {
                long without = good & ~(255L << 8 * place);
                for (int code : wrong) {
                    isPut(without | (long) code << 8 * place, RopeWalk.BAD_VALUE);
                }
                isPut(without | 33L << 8 * place, many);
                isPut(without | 126L << 8 * place, many);
                isPut(without, place == many - 1 && many > 1 ? many - 1 : RopeWalk.BAD_VALUE);
            }
        }
    }

    private static void isPut(long characters, int due) {
        RopeWalk x = new RopeWalk();
        String call = "put(" + Long.toHexString(characters) + ")";
        Due.is(call, x.put(characters), due);
        Due.is(call + ": count(7)", x.count(7), Math.max(0, due));
    }

    /** Behind 8 bits that are 0, each single bit above is wrong. */
    private static void promise23NothingAboveTheFirst() {
        for (int many = 1; many <= 7; many++) {
            long good = Walks.packed("tttttttt".substring(0, many));
            isPut(good, many);
            for (int bit = 8 * many + 8; bit < 64; bit++) {
                isPut(good | 1L << bit, RopeWalk.BAD_VALUE);
            }
        }
        for (int bit = 0; bit < 64; bit++) {
            isPut(1L << bit, bit == 6 ? 1 : RopeWalk.BAD_VALUE);
        }
        isPut(0, RopeWalk.BAD_VALUE);
        isPut(-1, RopeWalk.BAD_VALUE);
        isPut(Long.MIN_VALUE, RopeWalk.BAD_VALUE);
        isPut(Long.MAX_VALUE, RopeWalk.BAD_VALUE);
    }

    private static void promise24EmptyAndFull() {
        Script.run("the length that it had", """
            wipe() = 0; wipe() = 0; put(0x74) = 1; wipe() = 1; wipe() = 0; 10 * put(0x7474747474747474); count(7) = 80; wipe() = 80
            count(7) = 0; fault() = 0; carryOut() = BAD_TEXT; 10 * put(0x7E7E7E7E7E7E7E7E); put(33) = TOO_MANY; wipe() = 80; count(8) = 0
            put("d3") = 2; fault() = NONE; carryOut() = 1; count(0) = 3; wipe() = 0; put("d") = 1; put("d") = 2; fault() = 1""");
    }

    /** A number is 0 to 99999, without leading zeros, wherever one stands: N is where, # the place of the fault. */
    private static void promise25NumbersAtEachPlace() {
        String[] texts = {"y2+N", "y0+N;t0", "l2:4xN=7", "l0:3x7=N", "jN&0", "j0&N", "tN", "fN", "dN", "t0;d0;jN&5;f1"};
        String[] good = {"0", "1", "9", "10", "90", "99", "100", "1000", "10000", "99999", "90000"};
        String[] wrong = {"0#0", "0#1", "0#9", "0#00", "0#0000", "10000#0", "99999#0", "99999#9", "12345#6", "99999#x", "#-1", "#+1", "#x", "#a",
            "#/1", "#:1", "#~", "1#-", "1#.", "1#/", "1#~"};
        for (String text : texts) {
            int place = text.indexOf('N');
            for (String number : good) {
                Due.is("fault with " + number, faultOf(text.replace("N", number)), RopeWalk.NONE);
            }
            for (String number : wrong) {
                String whole = text.replace("N", number.replace("#", ""));
                Due.is("fault of " + whole, faultOf(whole), place + number.indexOf('#'));
            }
        }
    }

    /** A text that ends too early has its fault at its length, and none where it may end. */
    private static void promise25EachBeginning() {
        String text = "y2+90;l1:4x12=345;j10&2;t7;f15;d60;y0+99999";
        for (int length = 0; length <= text.length(); length++) {
            String part = text.substring(0, length);
            boolean whole = part.matches("(.*;)?(y.\\+\\d+|l.:.x\\d+=\\d+|j\\d+&\\d+|[tfd]\\d+)");
            Due.is("fault of " + part, faultOf(part), whole ? RopeWalk.NONE : length);
            Due.is("fault of " + part + " and ~", faultOf(part + "~"), length);
            Due.is("fault of " + part + " and !", faultOf(part + "!"), length);
        }
    }

    private static void promise25OfThePadAsItIs() {
        Script.run("fault of a pad that grows", """
            fault() = 0; put(0x64) = 1; fault() = 1; put(0x31) = 2; fault() = NONE; put(0x30) = 3; fault() = NONE; put("000") = 6; fault() = NONE
            put(0x30) = 7; fault() = 6; put(0x3B) = 8; fault() = 6; carryOut() = BAD_TEXT; wipe() = 8; fault() = 0; put(0x3B) = 1; fault() = 0
            count(8) = 0""");
    }

    private static void promise26AnswersOfZero() {
        Script.run("an answer of 0 is no error", Walks.plain(), """
            set(TEST, 1); fibre(0, 1, 10); put("l0:3x1=20;l0:3x1=20;j1&0;t0;d1") = 30; carryOut() = 5; count(0) = 1; piece(0, 3) = 33; piece(0, 7) = 0""");
    }

    private static void promise26EachErrorStops() {
        String[] wrong = {
            "y0+0", "l0:3x0=20", "l0:3x41=20", "l0:3x1=0", "l0:3x1=2001", "l0:4x1=2000", "l1:4x40=1500", "j0&0", "j0&4", "j4&0", "j0&2", "j0&3",
            "t4", "t99999", "t3", "f2", "f1", "f99999", "d0", "d61", "d99999"
        };
        for (String job : wrong) {
            RopeWalk x = stopping();
            String text = "d2;" + job + ";d3";
            Due.is("put of " + text, Walks.put(x, text), text.length());
            Due.is("carryOut() of " + text, x.carryOut(), 1);
            RopeWalk other = stopping();
            other.pass(2);
            Due.is("behind " + text, Walks.seen(x), Walks.seen(other));
            Due.is("the pad behind " + text, x.count(7), 0);
            Due.is("undo() behind " + text, x.undo(), 5);
            Due.is("undone: " + text, Walks.seen(x), Walks.seen(stopping()));
        }
    }

    private static RopeWalk stopping() {
        RopeWalk x = Walks.withPieces(50, 60);
        x.lay(0, 4, 1, 50);
        x.lay(0, 3, 1, 4);
        x.set(RopeWalk.WALK, 1400);
        x.order(0, 1, 20, 2, 0, 5);
        x.order(0, 1, 61, 2, 0, 5);
        return x;
    }

    private static void promise26TheLastJob() {
        Script.run("an error of the last job, of the first, of none", """
            put("d1;d2;d61") = 9; carryOut() = 2; count(0) = 3; count(7) = 0; count(8) = 1
            put("d61;d1;d2") = 9; carryOut() = 0; count(0) = 3; count(7) = 0; count(8) = 2
            put("d1;d2;d60") = 9; carryOut() = 3; count(0) = 66; count(7) = 0; count(8) = 3; undo() = 2; count(0) = 3; undo() = 1; count(0) = 3
            undo() = 0; count(0) = 0; carryOut() = BAD_TEXT; count(8) = 0""");
    }
}
