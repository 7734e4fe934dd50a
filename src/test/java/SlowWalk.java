import java.util.ArrayList;
import java.util.List;
import java.util.regex.Matcher;
import java.util.regex.Pattern;

/**
 * The document a second time, written for plainness alone: states are copied whole, days pass one by one,
 * sets are tried one by one, texts are read with regular expressions. RandomRunsTest compares it with RopeWalk.
 */
final class SlowWalk {
    private static final int[] LEAST = {100, 10, 0, 0, 1, 1, 1, 1, 10, 0};
    private static final int[] MOST = {2000, 60, 40, 60, 30, 30, 60, 24, 500, 500};
    private static final String NUMBER = "(?:0|[1-9][0-9]{0,4})";
    private static final String JOB = "(?:y[0-2]\\+N|l[0-2]:[34]xN=N|jN&N|[tfd]N)".replace("N", NUMBER);
    private static final Pattern TEXT = Pattern.compile(JOB + "(?:;" + JOB + ")*");
    private static final Pattern DIGITS = Pattern.compile("[0-9]+");

    record Rope(int fibre, int strands, int yarns, long length, long yarn, int quality, int splices) {
        Rope cut(long part) {
            return new Rope(fibre, strands, yarns, length - part, yarn - yarn * part / length, quality, splices);
        }
    }

    record Wish(int fibre, int strength, int length, int wanted, boolean spliced, int due, int price) {
        Wish less(int ropes) {
            return new Wish(fibre, strength, length, wanted - ropes, spliced, due, price);
        }
    }

    private static final class State {
        int[] settings = {1000, 30, 12, 15, 6, 5, 10, 12, 100, 50};
        int[] strengths = {60, 45, 30};
        int[] twists = {32, 28, 24};
        List<Rope> ropes = new ArrayList<>();
        List<Wish> wishes = new ArrayList<>();
        long[] spun = new long[3];
        long[] store = new long[3];
        long[] sold = new long[3];
        long[] tested = new long[3];
        long[] ends = new long[3];
        int today;
        int used;
        long ropesSold;
        long got;
        long fines;

        State copy() {
            State copy = new State();
            copy.settings = settings.clone();
            copy.strengths = strengths.clone();
            copy.twists = twists.clone();
            copy.ropes = new ArrayList<>(ropes);
            copy.wishes = new ArrayList<>(wishes);
            copy.spun = spun.clone();
            copy.store = store.clone();
            copy.sold = sold.clone();
            copy.tested = tested.clone();
            copy.ends = ends.clone();
            copy.today = today;
            copy.used = used;
            copy.ropesSold = ropesSold;
            copy.got = got;
            copy.fines = fines;
            return copy;
        }

        long strength(Rope rope) {
            long strength = (long) rope.strands * rope.yarns * strengths[rope.fibre] * rope.quality / 100;
            return rope.splices > 0 ? strength * (100 - settings[3]) / 100 : strength;
        }

        boolean suits(Rope rope, Wish wish) {
            return rope.fibre == wish.fibre && strength(rope) >= wish.strength && rope.length >= wish.length
                && (rope.splices == 0 || wish.spliced);
        }

        void cutFrom(int number, int feet) {
            Rope rest = ropes.get(number).cut(feet);
            if (rest.length == 0) {
                ropes.remove(number);
            } else if (rest.length < settings[6]) {
                ends[rest.fibre] += rest.yarn;
                ropes.remove(number);
            } else {
                ropes.set(number, rest);
            }
        }

        int fillWish(int number) {
            Wish wish = wishes.get(number);
            int many = 0;
            while (many < wish.wanted) {
                int best = -1;
                for (int i = ropes.size() - 1; i >= 0; i--) {
                    boolean shorter = best < 0 || ropes.get(i).length <= ropes.get(best).length;
                    if (suits(ropes.get(i), wish) && shorter) {
                        best = i;
                    }
                }
                if (best < 0) {
                    break;
                }
                Rope from = ropes.get(best);
                sold[from.fibre] += from.yarn * wish.length / from.length;
                cutFrom(best, wish.length);
                many++;
            }
            ropesSold += many;
            got += (long) many * wish.price;
            wishes.set(number, wish.less(many));
            return many;
        }
    }

    private State now = new State();
    private final List<State> history = new ArrayList<>();
    private final State[] slots = new State[2];
    private String pad = "";

    private int changed(State before, long answer) {
        if (answer >= 0) {
            history.add(before);
            if (history.size() > 6) {
                history.remove(0);
            }
        }
        return (int) answer;
    }

    int set(int setting, int value) {
        if (setting < 0 || setting > 9 || value < LEAST[setting] || value > MOST[setting]) {
            return -2;
        }
        State before = now.copy();
        now.settings[setting] = value;
        return changed(before, before.settings[setting]);
    }

    int fibre(int fibre, int strength, int twist) {
        if (fibre < 0 || fibre > 2) {
            return -1;
        }
        if (strength < 1 || strength > 200 || twist < 10 || twist > 60) {
            return -2;
        }
        State before = now.copy();
        now.strengths[fibre] = strength;
        now.twists[fibre] = twist;
        return changed(before, 100 * before.strengths[fibre] + before.twists[fibre]);
    }

    int spin(int fibre, int feet) {
        State before = now.copy();
        return changed(before, doSpin(fibre, feet));
    }

    private long doSpin(int fibre, int feet) {
        if (fibre < 0 || fibre > 2) {
            return -1;
        }
        if (feet < 1 || feet > 3000000) {
            return -2;
        }
        if (now.store[fibre] + feet > 9000000) {
            return -5;
        }
        now.spun[fibre] += feet;
        now.store[fibre] += feet;
        return now.store[fibre];
    }

    private static long up(long number, long by) {
        return number % by == 0 ? number / by : number / by + 1;
    }

    /** Strands, yarns, yarn in all, hours, quality, strength. */
    private long[] needs(int fibre, int strands, int yarns, int feet) {
        long strand = up((long) feet * (100 + now.settings[2]), 100);
        long yarn = up(strand * (100 + now.settings[1]), 100);
        int off = Math.abs(now.settings[1] - now.twists[fibre]);
        int quality = Math.max(40, 100 - off - off);
        Rope rope = new Rope(fibre, strands, yarns, feet, strands * yarns * yarn, quality, 0);
        return new long[] {strand, yarn, rope.yarn, up(strands * strand, now.settings[8]), quality, now.strength(rope)};
    }

    private boolean canLay(int fibre, int strands, int yarns, int feet) {
        long[] needs = needs(fibre, strands, yarns, feet);
        return needs[0] <= now.settings[0] && needs[2] <= now.store[fibre] && needs[3] + now.used <= now.settings[7];
    }

    int lay(int fibre, int strands, int yarns, int feet) {
        State before = now.copy();
        return changed(before, doLay(fibre, strands, yarns, feet));
    }

    private static int ropeError(int fibre, int strands, int yarns, int feet) {
        if (fibre < 0 || fibre > 2) {
            return -1;
        }
        boolean good = (strands == 3 || strands == 4) && yarns > 0 && yarns < 41 && feet > 0 && feet < 2001;
        return good ? 0 : -2;
    }

    private long doLay(int fibre, int strands, int yarns, int feet) {
        int error = ropeError(fibre, strands, yarns, feet);
        if (error < 0) {
            return error;
        }
        if (now.ropes.size() == 24) {
            return -4;
        }
        if (!canLay(fibre, strands, yarns, feet)) {
            return -5;
        }
        long[] needs = needs(fibre, strands, yarns, feet);
        now.store[fibre] -= needs[2];
        now.used += (int) needs[3];
        now.ropes.add(new Rope(fibre, strands, yarns, feet, needs[2], (int) needs[4], 0));
        return now.ropes.size() - 1;
    }

    private boolean isRope(int number) {
        return number >= 0 && number < now.ropes.size();
    }

    private boolean isWish(int number) {
        return number >= 0 && number < now.wishes.size();
    }

    private static boolean alike(Rope one, Rope two) {
        return one.fibre == two.fibre && one.strands == two.strands && one.yarns == two.yarns;
    }

    int join(int piece, int other) {
        State before = now.copy();
        return changed(before, doJoin(piece, other));
    }

    private long doJoin(int piece, int other) {
        if (!isRope(piece) || !isRope(other) || piece == other) {
            return -1;
        }
        Rope one = now.ropes.get(piece);
        Rope two = now.ropes.get(other);
        if (!alike(one, two) || one.length <= now.settings[4] || two.length <= now.settings[4]) {
            return -5;
        }
        Rope both = new Rope(one.fibre, one.strands, one.yarns, one.length + two.length - now.settings[4],
            one.yarn + two.yarn, Math.min(one.quality, two.quality), one.splices + two.splices + 1);
        now.ropes.set(Math.min(piece, other), both);
        now.ropes.remove(Math.max(piece, other));
        return Math.min(piece, other);
    }

    int test(int piece) {
        State before = now.copy();
        return changed(before, doTest(piece));
    }

    private long doTest(int piece) {
        if (!isRope(piece)) {
            return -1;
        }
        Rope rope = now.ropes.get(piece);
        int feet = now.settings[5];
        if (rope.length < feet) {
            return -5;
        }
        now.tested[rope.fibre] += rope.yarn * feet / rope.length;
        now.cutFrom(piece, feet);
        return now.strength(rope);
    }

    int order(int fibre, int strength, int feet, int many, int terms, int price) {
        if (fibre < 0 || fibre > 2) {
            return -1;
        }
        if (strength < 1 || strength > 50000 || feet < 1 || feet > 500 || many < 1 || many > 20
            || terms < 0 || terms > 201 || price < 0 || price > 100000) {
            return -2;
        }
        if (now.wishes.size() == 16) {
            return -4;
        }
        State before = now.copy();
        now.wishes.add(new Wish(fibre, strength, feet, many, (terms & 1) == 1, now.today + (terms >> 1), price));
        return changed(before, now.wishes.size() - 1);
    }

    int fill(int order) {
        State before = now.copy();
        return changed(before, doFill(order));
    }

    private long doFill(int order) {
        if (!isWish(order)) {
            return -1;
        }
        int many = now.fillWish(order);
        if (many == 0) {
            return -5;
        }
        if (now.wishes.get(order).wanted == 0) {
            now.wishes.remove(order);
        }
        return many;
    }

    int drop(int order) {
        if (!isWish(order)) {
            return -1;
        }
        State before = now.copy();
        int paid = now.settings[9] * now.wishes.remove(order).wanted;
        now.fines += paid;
        return changed(before, paid);
    }

    int pass(int days) {
        State before = now.copy();
        return changed(before, doPass(days));
    }

    private long doPass(int days) {
        if (days < 1 || days > 60) {
            return -2;
        }
        if (now.today + days > 3000) {
            return -5;
        }
        for (int i = 0; i < days; i++) {
            oneDay(now);
        }
        return now.today;
    }

    private static void oneDay(State state) {
        for (Wish wish : state.wishes) {
            if (wish.due <= state.today) {
                state.fines += state.settings[9] * wish.wanted;
            }
        }
        state.today++;
        state.used = 0;
    }

    int piece(int piece, int what) {
        if (!isRope(piece)) {
            return -1;
        }
        if (what < 0 || what > 7) {
            return -2;
        }
        Rope rope = now.ropes.get(piece);
        return (int) new long[] {rope.fibre, rope.strands, rope.yarns, rope.length, rope.yarn, rope.quality,
            rope.splices, now.strength(rope)}[what];
    }

    int ofOrder(int order, int what) {
        if (!isWish(order)) {
            return -1;
        }
        if (what < 0 || what > 7) {
            return -2;
        }
        Wish wish = now.wishes.get(order);
        int suiting = (int) now.ropes.stream().filter(rope -> now.suits(rope, wish)).count();
        return new int[] {wish.fibre, wish.strength, wish.length, wish.wanted, wish.spliced ? 1 : 0, wish.due,
            wish.price, suiting}[what];
    }

    int count(int what) {
        if (what < 0 || what > 24) {
            return -2;
        }
        long[] all = new long[25];
        all[0] = now.today;
        all[1] = now.ropes.size();
        all[2] = now.wishes.size();
        all[3] = Math.max(0, now.settings[7] - now.used);
        all[4] = now.ropesSold;
        all[5] = now.got;
        all[6] = now.fines;
        all[7] = pad.length();
        all[8] = history.size();
        for (int i = 0; i < 10; i++) {
            all[9 + i] = now.settings[i];
        }
        for (int i = 0; i < 3; i++) {
            all[19 + i] = now.strengths[i];
            all[22 + i] = now.twists[i];
        }
        return (int) all[what];
    }

    int account(int fibre, int what) {
        if (fibre < 0 || fibre > 2) {
            return -1;
        }
        if (what < 0 || what > 5) {
            return -2;
        }
        long inRopes = now.ropes.stream().filter(rope -> rope.fibre == fibre).mapToLong(Rope::yarn).sum();
        return (int) new long[] {now.spun[fibre], now.store[fibre], inRopes, now.sold[fibre], now.tested[fibre],
            now.ends[fibre]}[what];
    }

    int takes(int fibre, int strands, int yarns, int feet, int what) {
        int error = ropeError(fibre, strands, yarns, feet);
        if (error == 0 && (what < 0 || what > 5)) {
            error = -2;
        }
        return error < 0 ? error : (int) needs(fibre, strands, yarns, feet)[what];
    }

    int longest(int fibre, int strands, int yarns) {
        int error = ropeError(fibre, strands, yarns, 1);
        if (error < 0) {
            return error;
        }
        int longest = -6;
        for (int feet = 1; feet <= 2000; feet++) {
            if (canLay(fibre, strands, yarns, feet)) {
                longest = feet;
            }
        }
        return longest;
    }

    int leastYarns(int fibre, int strands, int strength) {
        int error = ropeError(fibre, strands, 1, 1);
        if (error == 0 && (strength < 1 || strength > 50000)) {
            error = -2;
        }
        if (error < 0) {
            return error;
        }
        int least = -6;
        for (int yarns = 40; yarns >= 1; yarns--) {
            if (needs(fibre, strands, yarns, 1)[5] >= strength) {
                least = yarns;
            }
        }
        return least;
    }

    int wouldFill(int order, int what) {
        if (!isWish(order)) {
            return -1;
        }
        if (what < 0 || what > 2) {
            return -2;
        }
        State copy = now.copy();
        int fibre = now.wishes.get(order).fibre;
        int many = copy.fillWish(order);
        return (int) new long[] {many, copy.ends[fibre] - now.ends[fibre], copy.ropes.size()}[what];
    }

    int bestSet(int what) {
        if (what < 0 || what > 1) {
            return -2;
        }
        int orders = Math.min(10, now.wishes.size());
        int bestMask = 0;
        long best = 0;
        for (int mask = 1; mask < 1 << orders; mask++) {
            State copy = now.copy();
            for (int order = 0; order < orders; order++) {
                if ((mask >> order & 1) == 1) {
                    copy.fillWish(order);
                }
            }
            long sum = copy.got - now.got;
            boolean fewer = Integer.bitCount(mask) < Integer.bitCount(bestMask);
            if (sum > best || sum == best && fewer) {
                best = sum;
                bestMask = mask;
            }
        }
        return what == 0 ? bestMask : (int) best;
    }

    /** The greatest length for each number of pieces, as in packing. */
    int fewestJoined(int piece, int feet) {
        if (!isRope(piece)) {
            return -1;
        }
        if (feet < 1 || feet > 5000) {
            return -2;
        }
        Rope first = now.ropes.get(piece);
        if (first.length >= feet) {
            return 1;
        }
        int overlap = now.settings[4];
        if (first.length <= overlap) {
            return -6;
        }
        long[] greatest = new long[25];
        greatest[1] = first.length;
        for (int i = 0; i < now.ropes.size(); i++) {
            Rope rope = now.ropes.get(i);
            if (i != piece && alike(rope, first) && rope.length > overlap) {
                for (int many = 24; many > 1; many--) {
                    if (greatest[many - 1] > 0) {
                        greatest[many] = Math.max(greatest[many], greatest[many - 1] + rope.length - overlap);
                    }
                }
            }
        }
        for (int many = 2; many < 25; many++) {
            if (greatest[many] >= feet) {
                return many;
            }
        }
        return -6;
    }

    int finesIn(int days) {
        if (days < 1 || days > 200) {
            return -2;
        }
        State copy = now.copy();
        for (int i = 0; i < days; i++) {
            oneDay(copy);
        }
        return (int) (copy.fines - now.fines);
    }

    int put(long characters) {
        String text = "";
        boolean over = false;
        for (int i = 0; i < 8; i++) {
            int code = (int) (characters >> 8 * i & 255);
            over |= code == 0;
            if (over && code != 0 || !over && (code < 33 || code > 126)) {
                return -2;
            }
            text = over ? text : (char) code + text;
        }
        if (text.isEmpty()) {
            return -2;
        }
        if (pad.length() + text.length() > 80) {
            return -4;
        }
        pad += text;
        return pad.length();
    }

    int wipe() {
        int length = pad.length();
        pad = "";
        return length;
    }

    /** The fault is the length of the longest part from the left that some text begins with. */
    int fault() {
        Matcher whole = TEXT.matcher(pad);
        if (whole.matches()) {
            return -6;
        }
        for (int length = pad.length(); length > 0; length--) {
            Matcher part = TEXT.matcher(pad.substring(0, length));
            if (part.matches() || part.hitEnd()) {
                return length;
            }
        }
        return 0;
    }

    int carryOut() {
        if (fault() != -6) {
            return -3;
        }
        State before = now.copy();
        int done = 0;
        for (String job : pad.split(";")) {
            if (oneJob(job) < 0) {
                break;
            }
            done++;
        }
        pad = "";
        return changed(before, done);
    }

    private long oneJob(String job) {
        int[] numbers = DIGITS.matcher(job).results().mapToInt(result -> Integer.parseInt(result.group())).toArray();
        switch (job.charAt(0)) {
            case 'y': return doSpin(numbers[0], numbers[1]);
            case 'l': return doLay(numbers[0], numbers[1], numbers[2], numbers[3]);
            case 'j': return doJoin(numbers[0], numbers[1]);
            case 't': return doTest(numbers[0]);
            case 'f': return doFill(numbers[0]);
            default: return doPass(numbers[0]);
        }
    }

    int undo() {
        if (history.isEmpty()) {
            return -5;
        }
        now = history.remove(history.size() - 1);
        return history.size();
    }

    int save(int slot) {
        if (slot < 0 || slot > 1) {
            return -2;
        }
        slots[slot] = now.copy();
        return now.today;
    }

    int restore(int slot) {
        if (slot < 0 || slot > 1) {
            return -2;
        }
        if (slots[slot] == null) {
            return -5;
        }
        State before = now;
        now = slots[slot].copy();
        return changed(before, now.today);
    }
}
