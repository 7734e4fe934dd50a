/**
 * A rope walk: yarn is spun, ropes are laid of it, joined, tested and cut for orders, and all yarn
 * is accounted for. What each call does and answers stands in the document (DOC.md), by promise.
 *
 * <p>Every row is made in the constructor and used again, so that no call makes objects.
 */
public final class RopeWalk {
    public static final int NO_SUCH = -1, BAD_VALUE = -2, BAD_TEXT = -3, TOO_MANY = -4, NOT_POSSIBLE = -5, NONE = -6;
    public static final int WALK = 0, TWIST = 1, LAY = 2, SPLICE = 3, OVERLAP = 4, TEST = 5, SHORTEST = 6, HOURS = 7, SPEED = 8, FINE = 9;

    private static final int SETTINGS = 10;
    private static final int[] FIRST_SETTINGS = {1000, 30, 12, 15, 6, 5, 10, 12, 100, 50};
    private static final int[] LEAST_SETTINGS = {100, 10, 0, 0, 1, 1, 1, 1, 10, 0};
    private static final int[] MOST_SETTINGS = {2000, 60, 40, 60, 30, 30, 60, 24, 500, 500};

    private static final int FIBRES = 3;
    private static final int[] FIRST_STRENGTHS = {60, 45, 30};
    private static final int[] FIRST_TWISTS = {32, 28, 24};
    private static final int MOST_YARN_STRENGTH = 200;
    private static final int LEAST_BEST_TWIST = 10;
    private static final int MOST_BEST_TWIST = 60;

    private static final int MOST_SPUN = 3000000;
    private static final int MOST_STORE = 9000000;

    private static final int LEAST_STRANDS = 3;
    private static final int MOST_STRANDS = 4;
    private static final int MOST_YARNS = 40;
    private static final int MOST_LAID = 2000;
    private static final int MOST_PIECES = 24;
    private static final int LEAST_QUALITY = 40;
    private static final int MOST_JOINED_LENGTH = 5000;

    private static final int MOST_ORDERS = 16;
    private static final int MOST_STRENGTH = 50000;
    private static final int MOST_ORDER_LENGTH = 500;
    private static final int MOST_WANTED = 20;
    private static final int MOST_TERMS = 201;
    private static final int MOST_PRICE = 100000;

    private static final int MOST_DAYS = 60;
    private static final int LAST_DAY = 3000;
    private static final int MOST_FORECAST = 200;

    private static final int ACCOUNTS = 6;
    private static final int SPUN = 0, STORE = 1, IN_PIECES = 2, SOLD = 3, TESTED = 4, ENDS = 5;

    private static final int SLOTS = 2;

    private final Yard yard = new Yard();
    private final History history = new History();
    private final Yard[] slots = new Yard[SLOTS];
    private final boolean[] saved = new boolean[SLOTS];
    private final Reader reader = new Reader();
    private final Pad pad = reader.pad;
    private final Trial trial = new Trial();

    public RopeWalk() {
        for (int i = 0; i < SLOTS; i++) {
            slots[i] = new Yard();
        }
    }

    // ---- setting up

    public int set(int setting, int value) {
        history.prepare(yard);
        return history.settle(yard.changeSetting(setting, value));
    }

    public int fibre(int fibre, int strength, int twist) {
        history.prepare(yard);
        return history.settle(yard.changeFibre(fibre, strength, twist));
    }

    // ---- yarn and ropes

    public int spin(int fibre, int feet) {
        history.prepare(yard);
        return history.settle(yard.spinYarn(fibre, feet));
    }

    public int lay(int fibre, int strands, int yarns, int feet) {
        history.prepare(yard);
        return history.settle(yard.layRope(fibre, strands, yarns, feet));
    }

    public int join(int piece, int other) {
        history.prepare(yard);
        return history.settle(yard.joinPieces(piece, other));
    }

    public int test(int piece) {
        history.prepare(yard);
        return history.settle(yard.testPiece(piece));
    }

    // ---- orders and days

    public int order(int fibre, int strength, int feet, int many, int terms, int price) {
        history.prepare(yard);
        return history.settle(yard.takeOrder(fibre, strength, feet, many, terms, price));
    }

    public int fill(int order) {
        history.prepare(yard);
        return history.settle(yard.fillOrder(order));
    }

    public int drop(int order) {
        history.prepare(yard);
        return history.settle(yard.dropOrder(order));
    }

    public int pass(int days) {
        history.prepare(yard);
        return history.settle(yard.passDays(days));
    }

    // ---- what there is

    public int piece(int piece, int what) {
        return yard.aboutPiece(piece, what);
    }

    public int ofOrder(int order, int what) {
        return yard.aboutOrder(order, what);
    }

    public int count(int what) {
        switch (what) {
            case 7: return pad.length;
            case 8: return history.count;
            default: return yard.aboutAll(what);
        }
    }

    public int account(int fibre, int what) {
        if (!isFibre(fibre)) {
            return NO_SUCH;
        }
        return inRange(what, 0, ACCOUNTS - 1) ? yard.stock.accounts[fibre][what] : BAD_VALUE;
    }

    // ---- what if; nothing changes

    public int takes(int fibre, int strands, int yarns, int feet, int what) {
        if (!isFibre(fibre)) {
            return NO_SUCH;
        }
        if (!isMake(strands, yarns) || !inRange(feet, 1, MOST_LAID)) {
            return BAD_VALUE;
        }
        return yard.rules.aboutNewRope(fibre, strands, yarns, feet, what);
    }

    public int longest(int fibre, int strands, int yarns) {
        if (!isFibre(fibre)) {
            return NO_SUCH;
        }
        return isMake(strands, yarns) ? yard.longestRope(fibre, strands, yarns) : BAD_VALUE;
    }

    public int leastYarns(int fibre, int strands, int strength) {
        if (!isFibre(fibre)) {
            return NO_SUCH;
        }
        if (!isMake(strands, 1) || !inRange(strength, 1, MOST_STRENGTH)) {
            return BAD_VALUE;
        }
        return yard.rules.fewestYarns(fibre, strands, strength);
    }

    public int wouldFill(int order, int what) {
        if (!yard.book.has(order)) {
            return NO_SUCH;
        }
        return trial.fillOne(yard, order, what);
    }

    public int bestSet(int what) {
        if (!inRange(what, 0, 1)) {
            return BAD_VALUE;
        }
        trial.findBestSet(yard);
        return what == 0 ? trial.bestMask : trial.bestSum;
    }

    public int fewestJoined(int piece, int feet) {
        if (!yard.stock.has(piece)) {
            return NO_SUCH;
        }
        if (!inRange(feet, 1, MOST_JOINED_LENGTH)) {
            return BAD_VALUE;
        }
        return yard.stock.fewestFor(piece, feet, yard.rules.settings[OVERLAP]);
    }

    public int finesIn(int days) {
        return inRange(days, 1, MOST_FORECAST) ? yard.finesOver(days) : BAD_VALUE;
    }

    // ---- texts

    public int put(long characters) {
        return pad.append(characters);
    }

    public int wipe() {
        return pad.clear();
    }

    public int fault() {
        return reader.firstFault();
    }

    public int carryOut() {
        if (reader.firstFault() != NONE) {
            return BAD_TEXT;
        }
        history.prepare(yard);
        reader.rewind();
        int done = 0;
        while (done < Pad.MOST && reader.nextJob() && doJob() >= 0) {
            done++;
        }
        pad.clear();
        return history.settle(done);
    }

    private int doJob() {
        int[] numbers = reader.numbers;
        switch (reader.kind) {
            case 'y': return yard.spinYarn(numbers[0], numbers[1]);
            case 'l': return yard.layRope(numbers[0], numbers[1], numbers[2], numbers[3]);
            case 'j': return yard.joinPieces(numbers[0], numbers[1]);
            case 't': return yard.testPiece(numbers[0]);
            case 'f': return yard.fillOrder(numbers[0]);
            default: return yard.passDays(numbers[0]);
        }
    }

    // ---- undo, saving

    public int undo() {
        return history.stepBack(yard);
    }

    public int save(int slot) {
        if (!inRange(slot, 0, SLOTS - 1)) {
            return BAD_VALUE;
        }
        slots[slot].copyFrom(yard);
        saved[slot] = true;
        return yard.today;
    }

    public int restore(int slot) {
        if (!inRange(slot, 0, SLOTS - 1)) {
            return BAD_VALUE;
        }
        if (!saved[slot]) {
            return NOT_POSSIBLE;
        }
        history.prepare(yard);
        yard.copyFrom(slots[slot]);
        return history.settle(yard.today);
    }

    // ---- ranges that several calls share

    private static boolean inRange(int value, int least, int most) {
        return value >= least && value <= most;
    }

    private static boolean isFibre(int fibre) {
        return inRange(fibre, 0, FIBRES - 1);
    }

    private static boolean isMake(int strands, int yarns) {
        return inRange(strands, LEAST_STRANDS, MOST_STRANDS) && inRange(yarns, 1, MOST_YARNS);
    }

    /** The settings and the fibres, and what follows from them for ropes. */
    private static final class Rules {
        final int[] settings = new int[SETTINGS];
        final int[] strengths = new int[FIBRES];
        final int[] twists = new int[FIBRES];

        Rules() {
            System.arraycopy(FIRST_SETTINGS, 0, settings, 0, SETTINGS);
            System.arraycopy(FIRST_STRENGTHS, 0, strengths, 0, FIBRES);
            System.arraycopy(FIRST_TWISTS, 0, twists, 0, FIBRES);
        }

        void copyFrom(Rules other) {
            System.arraycopy(other.settings, 0, settings, 0, SETTINGS);
            System.arraycopy(other.strengths, 0, strengths, 0, FIBRES);
            System.arraycopy(other.twists, 0, twists, 0, FIBRES);
        }

        int strandLength(int feet) {
            return lengthened(feet, settings[LAY]);
        }

        int yarnLength(int feet) {
            return lengthened(lengthened(feet, settings[LAY]), settings[TWIST]);
        }

        private static int lengthened(int length, int percent) {
            return (length * (100 + percent) + 99) / 100;
        }

        int yarnFor(int strands, int yarns, int feet) {
            return strands * yarns * yarnLength(feet);
        }

        int hoursFor(int strands, int feet) {
            int speed = Math.max(1, settings[SPEED]);
            return (strands * strandLength(feet) + speed - 1) / speed;
        }

        int qualityNow(int fibre) {
            int difference = Math.abs(settings[TWIST] - twists[fibre]);
            return Math.max(LEAST_QUALITY, 100 - 2 * difference);
        }

        int newStrength(int fibre, int strands, int yarns) {
            return strands * yarns * strengths[fibre] * qualityNow(fibre) / 100;
        }

        int strengthOf(Piece piece) {
            int whole = piece.strands * piece.yarns * strengths[piece.fibre] * piece.quality / 100;
            return piece.splices == 0 ? whole : whole * (100 - settings[SPLICE]) / 100;
        }

        boolean suits(Piece piece, Order order) {
            return piece.fibre == order.fibre
                && piece.length >= order.length
                && (order.splicesAllowed || piece.splices == 0)
                && strengthOf(piece) >= order.strength;
        }

        int aboutNewRope(int fibre, int strands, int yarns, int feet, int what) {
            switch (what) {
                case 0: return strandLength(feet);
                case 1: return yarnLength(feet);
                case 2: return yarnFor(strands, yarns, feet);
                case 3: return hoursFor(strands, feet);
                case 4: return qualityNow(fibre);
                case 5: return newStrength(fibre, strands, yarns);
                default: return BAD_VALUE;
            }
        }

        int fewestYarns(int fibre, int strands, int strength) {
            for (int yarns = 1; yarns <= MOST_YARNS; yarns++) {
                if (newStrength(fibre, strands, yarns) >= strength) {
                    return yarns;
                }
            }
            return NONE;
        }
    }

    /** A piece of rope. */
    private static final class Piece {
        int fibre;
        int strands;
        int yarns;
        int length;
        int yarn;
        int quality;
        int splices;

        void copyFrom(Piece other) {
            fibre = other.fibre;
            strands = other.strands;
            yarns = other.yarns;
            length = other.length;
            yarn = other.yarn;
            quality = other.quality;
            splices = other.splices;
        }

        boolean isLike(Piece other) {
            return fibre == other.fibre && strands == other.strands && yarns == other.yarns;
        }

        int yarnIn(int feet) {
            // a piece of many splices holds so much yarn that the product outgrows an int
            return length > 0 ? (int) ((long) yarn * feet / length) : 0;
        }
    }

    /** The pieces of rope, and the accounts of all yarn. */
    private static final class Stock {
        final Piece[] pieces = new Piece[MOST_PIECES];
        int count;
        final int[][] accounts = new int[FIBRES][ACCOUNTS];

        Stock() {
            for (int i = 0; i < MOST_PIECES; i++) {
                pieces[i] = new Piece();
            }
        }

        void copyFrom(Stock other) {
            count = other.count;
            for (int i = 0; i < count; i++) {
                pieces[i].copyFrom(other.pieces[i]);
            }
            for (int fibre = 0; fibre < FIBRES; fibre++) {
                System.arraycopy(other.accounts[fibre], 0, accounts[fibre], 0, ACCOUNTS);
            }
        }

        boolean has(int number) {
            return inRange(number, 0, count - 1);
        }

        boolean isFull() {
            return count >= MOST_PIECES;
        }

        private void move(int fibre, int from, int to, int feet) {
            accounts[fibre][from] -= feet;
            accounts[fibre][to] += feet;
        }

        int addYarn(int fibre, int feet) {
            accounts[fibre][SPUN] += feet;
            accounts[fibre][STORE] += feet;
            return accounts[fibre][STORE];
        }

        /** Adds a new rope; the stock must not be full. */
        int addRope(int fibre, int strands, int yarns, int feet, Rules rules) {
            Piece rope = pieces[count];
            rope.fibre = fibre;
            rope.strands = strands;
            rope.yarns = yarns;
            rope.length = feet;
            rope.yarn = rules.yarnFor(strands, yarns, feet);
            rope.quality = rules.qualityNow(fibre);
            rope.splices = 0;
            move(fibre, STORE, IN_PIECES, rope.yarn);
            count++;
            return count - 1;
        }

        private void remove(int number) {
            Piece gone = pieces[number];
            for (int i = number; i < count - 1; i++) {
                pieces[i] = pieces[i + 1];
            }
            count--;
            pieces[count] = gone;
        }

        int splice(int piece, int other, int overlap) {
            int place = Math.min(piece, other);
            int last = Math.max(piece, other);
            Piece kept = pieces[place];
            Piece added = pieces[last];
            kept.length += added.length - overlap;
            kept.yarn += added.yarn;
            kept.quality = Math.min(kept.quality, added.quality);
            kept.splices += added.splices + 1;
            remove(last);
            return place;
        }

        /** Cuts feet from a piece that is so long, and books the yarn in them to an account. */
        void cut(int number, int feet, int account, int shortest) {
            Piece piece = pieces[number];
            int part = piece.yarnIn(feet);
            move(piece.fibre, IN_PIECES, account, part);
            piece.yarn -= part;
            piece.length -= feet;
            if (piece.length < shortest) {
                move(piece.fibre, IN_PIECES, ENDS, piece.yarn);
                remove(number);
            }
        }

        /** Cuts ropes for an order as far as it goes, and returns how many; the order stays as it is. */
        int cutFor(Order order, Rules rules) {
            for (int ropes = 0; ropes < order.wanted; ropes++) {
                int number = shortestFor(order, rules);
                if (number < 0) {
                    return ropes;
                }
                cut(number, order.length, SOLD, rules.settings[SHORTEST]);
            }
            return order.wanted;
        }

        private int shortestFor(Order order, Rules rules) {
            int best = NONE;
            for (int i = 0; i < count; i++) {
                if (rules.suits(pieces[i], order) && (best < 0 || pieces[i].length < pieces[best].length)) {
                    best = i;
                }
            }
            return best;
        }

        int suitingCount(Order order, Rules rules) {
            int suiting = 0;
            for (int i = 0; i < count; i++) {
                if (rules.suits(pieces[i], order)) {
                    suiting++;
                }
            }
            return suiting;
        }

        /** The fewest pieces that reach a length with a piece: the longest of the others serve best. */
        int fewestFor(int number, int feet, int overlap) {
            Piece first = pieces[number];
            if (first.length >= feet) {
                return 1;
            }
            if (first.length <= overlap) {
                return NONE;
            }
            int length = first.length;
            int used = 1 << number;
            for (int joined = 2; joined <= count; joined++) {
                int next = longestLike(first, used);
                if (next < 0 || pieces[next].length <= overlap) {
                    return NONE;
                }
                length += pieces[next].length - overlap;
                used |= 1 << next;
                if (length >= feet) {
                    return joined;
                }
            }
            return NONE;
        }

        private int longestLike(Piece first, int used) {
            int best = NONE;
            for (int i = 0; i < count; i++) {
                boolean free = (used & (1 << i)) == 0;
                if (free && pieces[i].isLike(first) && (best < 0 || pieces[i].length > pieces[best].length)) {
                    best = i;
                }
            }
            return best;
        }
    }

    /** An open order. */
    private static final class Order {
        int fibre;
        int strength;
        int length;
        int wanted;
        boolean splicesAllowed;
        int due;
        int price;

        void copyFrom(Order other) {
            fibre = other.fibre;
            strength = other.strength;
            length = other.length;
            wanted = other.wanted;
            splicesAllowed = other.splicesAllowed;
            due = other.due;
            price = other.price;
        }
    }

    /** The open orders. */
    private static final class Book {
        final Order[] orders = new Order[MOST_ORDERS];
        int count;

        Book() {
            for (int i = 0; i < MOST_ORDERS; i++) {
                orders[i] = new Order();
            }
        }

        void copyFrom(Book other) {
            count = other.count;
            for (int i = 0; i < count; i++) {
                orders[i].copyFrom(other.orders[i]);
            }
        }

        boolean has(int number) {
            return inRange(number, 0, count - 1);
        }

        boolean isFull() {
            return count >= MOST_ORDERS;
        }

        void remove(int number) {
            Order gone = orders[number];
            for (int i = number; i < count - 1; i++) {
                orders[i] = orders[i + 1];
            }
            count--;
            orders[count] = gone;
        }

        /** How many ropes are wanted late in the days from today on, each rope once for each such day. */
        int lateRopes(int today, int days) {
            int late = 0;
            for (int i = 0; i < count; i++) {
                int firstLate = Math.max(today, orders[i].due);
                late += orders[i].wanted * Math.max(0, today + days - firstLate);
            }
            return late;
        }
    }

    /** All that undo brings back and a slot keeps, and the changes of it. A change that fails changes nothing. */
    private static final class Yard {
        final Rules rules = new Rules();
        final Stock stock = new Stock();
        final Book book = new Book();
        int today;
        int hoursUsed;
        int ropesSold;
        int got;
        int fines;

        void copyFrom(Yard other) {
            rules.copyFrom(other.rules);
            stock.copyFrom(other.stock);
            book.copyFrom(other.book);
            today = other.today;
            hoursUsed = other.hoursUsed;
            ropesSold = other.ropesSold;
            got = other.got;
            fines = other.fines;
        }

        int changeSetting(int setting, int value) {
            if (!inRange(setting, 0, SETTINGS - 1)
                || !inRange(value, LEAST_SETTINGS[setting], MOST_SETTINGS[setting])) {
                return BAD_VALUE;
            }
            int before = rules.settings[setting];
            rules.settings[setting] = value;
            return before;
        }

        int changeFibre(int fibre, int strength, int twist) {
            if (!isFibre(fibre)) {
                return NO_SUCH;
            }
            if (!inRange(strength, 1, MOST_YARN_STRENGTH) || !inRange(twist, LEAST_BEST_TWIST, MOST_BEST_TWIST)) {
                return BAD_VALUE;
            }
            int before = 100 * rules.strengths[fibre] + rules.twists[fibre];
            rules.strengths[fibre] = strength;
            rules.twists[fibre] = twist;
            return before;
        }

        int spinYarn(int fibre, int feet) {
            if (!isFibre(fibre)) {
                return NO_SUCH;
            }
            if (!inRange(feet, 1, MOST_SPUN)) {
                return BAD_VALUE;
            }
            if (stock.accounts[fibre][STORE] + feet > MOST_STORE) {
                return NOT_POSSIBLE;
            }
            return stock.addYarn(fibre, feet);
        }

        int layRope(int fibre, int strands, int yarns, int feet) {
            if (!isFibre(fibre)) {
                return NO_SUCH;
            }
            if (!isMake(strands, yarns) || !inRange(feet, 1, MOST_LAID)) {
                return BAD_VALUE;
            }
            if (stock.isFull()) {
                return TOO_MANY;
            }
            if (!canLay(fibre, strands, yarns, feet)) {
                return NOT_POSSIBLE;
            }
            hoursUsed += rules.hoursFor(strands, feet);
            return stock.addRope(fibre, strands, yarns, feet, rules);
        }

        private boolean canLay(int fibre, int strands, int yarns, int feet) {
            return rules.strandLength(feet) <= rules.settings[WALK]
                && rules.yarnFor(strands, yarns, feet) <= stock.accounts[fibre][STORE]
                && rules.hoursFor(strands, feet) <= hoursLeft();
        }

        private int hoursLeft() {
            return Math.max(0, rules.settings[HOURS] - hoursUsed);
        }

        int longestRope(int fibre, int strands, int yarns) {
            for (int feet = MOST_LAID; feet >= 1; feet--) {
                if (canLay(fibre, strands, yarns, feet)) {
                    return feet;
                }
            }
            return NONE;
        }

        int joinPieces(int piece, int other) {
            if (!stock.has(piece) || !stock.has(other) || piece == other) {
                return NO_SUCH;
            }
            Piece one = stock.pieces[piece];
            Piece two = stock.pieces[other];
            int overlap = rules.settings[OVERLAP];
            if (!one.isLike(two) || one.length <= overlap || two.length <= overlap) {
                return NOT_POSSIBLE;
            }
            return stock.splice(piece, other, overlap);
        }

        int testPiece(int piece) {
            if (!stock.has(piece)) {
                return NO_SUCH;
            }
            int feet = rules.settings[TEST];
            if (stock.pieces[piece].length < feet) {
                return NOT_POSSIBLE;
            }
            int strength = rules.strengthOf(stock.pieces[piece]);
            stock.cut(piece, feet, TESTED, rules.settings[SHORTEST]);
            return strength;
        }

        int takeOrder(int fibre, int strength, int feet, int many, int terms, int price) {
            if (!isFibre(fibre)) {
                return NO_SUCH;
            }
            if (!inRange(strength, 1, MOST_STRENGTH) || !inRange(feet, 1, MOST_ORDER_LENGTH)
                || !inRange(many, 1, MOST_WANTED) || !inRange(terms, 0, MOST_TERMS)
                || !inRange(price, 0, MOST_PRICE)) {
                return BAD_VALUE;
            }
            if (book.isFull()) {
                return TOO_MANY;
            }
            Order order = book.orders[book.count];
            order.fibre = fibre;
            order.strength = strength;
            order.length = feet;
            order.wanted = many;
            order.splicesAllowed = terms % 2 == 1;
            order.due = today + terms / 2;
            order.price = price;
            book.count++;
            return book.count - 1;
        }

        int fillOrder(int number) {
            if (!book.has(number)) {
                return NO_SUCH;
            }
            Order order = book.orders[number];
            int ropes = stock.cutFor(order, rules);
            if (ropes == 0) {
                return NOT_POSSIBLE;
            }
            ropesSold += ropes;
            got += ropes * order.price;
            order.wanted -= ropes;
            if (order.wanted == 0) {
                book.remove(number);
            }
            return ropes;
        }

        int dropOrder(int number) {
            if (!book.has(number)) {
                return NO_SUCH;
            }
            int paid = rules.settings[FINE] * book.orders[number].wanted;
            fines += paid;
            book.remove(number);
            return paid;
        }

        int passDays(int days) {
            if (!inRange(days, 1, MOST_DAYS)) {
                return BAD_VALUE;
            }
            if (today + days > LAST_DAY) {
                return NOT_POSSIBLE;
            }
            fines += finesOver(days);
            today += days;
            hoursUsed = 0;
            return today;
        }

        int finesOver(int days) {
            return rules.settings[FINE] * book.lateRopes(today, days);
        }

        int aboutPiece(int number, int what) {
            if (!stock.has(number)) {
                return NO_SUCH;
            }
            Piece piece = stock.pieces[number];
            switch (what) {
                case 0: return piece.fibre;
                case 1: return piece.strands;
                case 2: return piece.yarns;
                case 3: return piece.length;
                case 4: return piece.yarn;
                case 5: return piece.quality;
                case 6: return piece.splices;
                case 7: return rules.strengthOf(piece);
                default: return BAD_VALUE;
            }
        }

        int aboutOrder(int number, int what) {
            if (!book.has(number)) {
                return NO_SUCH;
            }
            Order order = book.orders[number];
            switch (what) {
                case 0: return order.fibre;
                case 1: return order.strength;
                case 2: return order.length;
                case 3: return order.wanted;
                case 4: return order.splicesAllowed ? 1 : 0;
                case 5: return order.due;
                case 6: return order.price;
                case 7: return stock.suitingCount(order, rules);
                default: return BAD_VALUE;
            }
        }

        int aboutAll(int what) {
            switch (what) {
                case 0: return today;
                case 1: return stock.count;
                case 2: return book.count;
                case 3: return hoursLeft();
                case 4: return ropesSold;
                case 5: return got;
                case 6: return fines;
                default: return aboutRules(what);
            }
        }

        private int aboutRules(int what) {
            if (inRange(what, 9, 18)) {
                return rules.settings[what - 9];
            }
            if (inRange(what, 19, 21)) {
                return rules.strengths[what - 19];
            }
            return inRange(what, 22, 24) ? rules.twists[what - 22] : BAD_VALUE;
        }
    }

    /** Fills orders on copies of the stock, so that nothing changes. */
    private static final class Trial {
        static final int MOST_TRIED = 10;

        /** Row n: the stock behind the first n orders of the set that is looked at. */
        final Stock[] stocks = new Stock[MOST_TRIED + 1];
        int bestMask;
        int bestSum;

        Trial() {
            for (int i = 0; i <= MOST_TRIED; i++) {
                stocks[i] = new Stock();
            }
        }

        int fillOne(Yard yard, int number, int what) {
            Stock copy = stocks[0];
            copy.copyFrom(yard.stock);
            Order order = yard.book.orders[number];
            int ropes = copy.cutFor(order, yard.rules);
            switch (what) {
                case 0: return ropes;
                case 1: return copy.accounts[order.fibre][ENDS] - yard.stock.accounts[order.fibre][ENDS];
                case 2: return copy.count;
                default: return BAD_VALUE;
            }
        }

        void findBestSet(Yard yard) {
            bestMask = 0;
            bestSum = 0;
            stocks[0].copyFrom(yard.stock);
            choose(this, yard, 0, 0, 0);
        }

        /** Goes on with the order of a number: first without it, then with it. */
        private static void choose(Trial trial, Yard yard, int number, int mask, int sum) {
            if (number >= yard.book.count || number >= MOST_TRIED) {
                trial.compare(mask, sum);
                return;
            }
            choose(trial, yard, number + 1, mask, sum);
            int level = Integer.bitCount(mask);
            Stock left = trial.stocks[level + 1];
            left.copyFrom(trial.stocks[level]);
            Order order = yard.book.orders[number];
            int ropes = left.cutFor(order, yard.rules);
            // a set with an order that gets no rope loses to the same set without it
            if (ropes > 0) {
                choose(trial, yard, number + 1, mask | (1 << number), sum + ropes * order.price);
            }
        }

        private void compare(int mask, int sum) {
            int fewer = Integer.bitCount(bestMask) - Integer.bitCount(mask);
            boolean ahead = fewer > 0 || (fewer == 0 && mask < bestMask);
            if (sum > bestSum || (sum == bestSum && ahead)) {
                bestMask = mask;
                bestSum = sum;
            }
        }
    }

    /** The states before the latest changes, the oldest one first. */
    private static final class History {
        static final int MOST = 6;

        /** One row more than is kept: a change that may yet fail is prepared behind the last one. */
        final Yard[] rows = new Yard[MOST + 1];
        int count;

        History() {
            for (int i = 0; i <= MOST; i++) {
                rows[i] = new Yard();
            }
        }

        void prepare(Yard yard) {
            rows[count].copyFrom(yard);
        }

        /** Keeps the state that was prepared, unless the answer of the change is an error; returns the answer. */
        int settle(int answer) {
            if (answer >= 0) {
                keep();
            }
            return answer;
        }

        private void keep() {
            if (count < MOST) {
                count++;
                return;
            }
            Yard oldest = rows[0];
            for (int i = 0; i < MOST; i++) {
                rows[i] = rows[i + 1];
            }
            rows[MOST] = oldest;
        }

        int stepBack(Yard yard) {
            if (count == 0) {
                return NOT_POSSIBLE;
            }
            count--;
            yard.copyFrom(rows[count]);
            return count;
        }
    }

    /** The text of jobs. */
    private static final class Pad {
        static final int MOST = 80;
        static final int MOST_AT_ONCE = 8;
        static final int LEAST_CODE = 33;
        static final int MOST_CODE = 126;

        final char[] signs = new char[MOST];
        int length;

        int append(long characters) {
            int many = countOf(characters);
            if (many == 0) {
                return BAD_VALUE;
            }
            if (length + many > MOST) {
                return TOO_MANY;
            }
            for (int i = many - 1; i >= 0; i--) {
                signs[length] = (char) codeAt(characters, i);
                length++;
            }
            return length;
        }

        private static int codeAt(long characters, int fromLast) {
            return (int) (characters >>> (8 * fromLast) & 255);
        }

        /** How many characters a number holds; 0 if it is not well made. */
        private static int countOf(long characters) {
            int many = 0;
            while (many < MOST_AT_ONCE && characters >>> (8 * many) != 0) {
                if (!inRange(codeAt(characters, many), LEAST_CODE, MOST_CODE)) {
                    return 0;
                }
                many++;
            }
            return many;
        }

        int clear() {
            int before = length;
            length = 0;
            return before;
        }
    }

    /** Reads the pad from left to right, a job at a time. */
    private static final class Reader {
        static final int THE_END = 0;
        static final int MOST_DIGITS = 5;
        static final int MOST_NUMBERS = 4;

        final Pad pad = new Pad();
        /** The place of the next character; behind a failed read, the fault. */
        int at;
        /** The letter of the job that was read last, and the numbers in it. */
        int kind;
        final int[] numbers = new int[MOST_NUMBERS];
        int found;

        void rewind() {
            at = 0;
        }

        int firstFault() {
            rewind();
            for (int jobs = 0; jobs < Pad.MOST; jobs++) {
                if (!nextJob()) {
                    return at;
                }
                if (at >= pad.length) {
                    return NONE;
                }
            }
            return at;
        }

        /** Reads one more job, with the ";" before it if it is not the first. */
        boolean nextJob() {
            if (at > 0 && !readSign(';')) {
                return false;
            }
            kind = here();
            String shape = shapeOf(kind);
            if (shape.isEmpty()) {
                return false;
            }
            at++;
            found = 0;
            for (int i = 0; i < shape.length(); i++) {
                if (!readPart(shape.charAt(i))) {
                    return false;
                }
            }
            return true;
        }

        /** What follows the letter of a job: F a fibre, S strands, N a number, all else itself. */
        private static String shapeOf(int letter) {
            switch (letter) {
                case 'y': return "F+N";
                case 'l': return "F:SxN=N";
                case 'j': return "N&N";
                case 't': return "N";
                case 'f': return "N";
                case 'd': return "N";
                default: return "";
            }
        }

        private int here() {
            return at < pad.length && at < Pad.MOST ? pad.signs[at] : THE_END;
        }

        private boolean readPart(int part) {
            switch (part) {
                case 'F': return readDigit('0', '2');
                case 'S': return readDigit('3', '4');
                case 'N': return readNumber();
                default: return readSign(part);
            }
        }

        private boolean readSign(int sign) {
            if (here() != sign) {
                return false;
            }
            at++;
            return true;
        }

        private boolean readDigit(int least, int most) {
            if (!inRange(here(), least, most)) {
                return false;
            }
            keep(here() - '0');
            at++;
            return true;
        }

        private boolean readNumber() {
            if (!isDigit(here())) {
                return false;
            }
            int number = 0;
            // a digit behind a leading zero, or one too many, is left: it cannot stand for what comes next
            for (int digits = 0; digits < MOST_DIGITS && isDigit(here()); digits++) {
                number = 10 * number + here() - '0';
                at++;
                if (number == 0) {
                    break;
                }
            }
            keep(number);
            return true;
        }

        private static boolean isDigit(int sign) {
            return inRange(sign, '0', '9');
        }

        private void keep(int number) {
            if (found < MOST_NUMBERS) {
                numbers[found] = number;
                found++;
            }
        }
    }
}
