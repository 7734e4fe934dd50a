/** What several tests need of a rope walk. */
final class Walks {
    private Walks() {
    }

    /** A rope walk in which only the pieces and the yarn bound what is laid. */
    static RopeWalk roomy() {
        RopeWalk x = new RopeWalk();
        x.set(RopeWalk.SPEED, 500);
        x.set(RopeWalk.HOURS, 24);
        x.set(RopeWalk.WALK, 2000);
        for (int fibre = 0; fibre < 3; fibre++) {
            x.spin(fibre, 3000000);
        }
        return x;
    }

    /** Roomy, with lay and twist so that a rope of some length takes strands * yarns times this length. */
    static RopeWalk plain() {
        RopeWalk x = roomy();
        x.set(RopeWalk.LAY, 0);
        return x;
    }

    /** The last eight characters of a text (or fewer) as the number that put() takes. */
    static long packed(String text) {
        long number = 0;
        for (int i = 0; i < text.length(); i++) {
            number = number << 8 | text.charAt(i);
        }
        return number;
    }

    static int put(RopeWalk x, String text) {
        int length = 0;
        for (int i = 0; i < text.length(); i += 8) {
            length = x.put(packed(text.substring(i, Math.min(text.length(), i + 8))));
        }
        return length;
    }

    /** All that can be seen of a rope walk but for the pad and the history. */
    static String seen(RopeWalk x) {
        StringBuilder all = new StringBuilder();
        for (int what = 0; what < 25; what++) {
            if (what != 7 && what != 8) {
                all.append(x.count(what)).append(' ');
            }
        }
        for (int fibre = 0; fibre < 3; fibre++) {
            for (int what = 0; what < 6; what++) {
                all.append(x.account(fibre, what)).append(' ');
            }
        }
        for (int piece = 0; piece < x.count(1); piece++) {
            for (int what = 0; what < 8; what++) {
                all.append(x.piece(piece, what)).append(' ');
            }
        }
        for (int order = 0; order < x.count(2); order++) {
            for (int what = 0; what < 8; what++) {
                all.append(x.ofOrder(order, what)).append(' ');
            }
        }
        return all.toString();
    }
}
