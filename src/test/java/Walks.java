import java.util.function.Supplier;

/** What several tests need of a rope walk. */
final class Walks {
    private Walks() {
    }

    /** A rope walk in which only the pieces and the yarn bound what is laid. */
    static RopeWalk roomy() {
        RopeWalk x = new RopeWalk();
        x.set(RopeWalk.SPEED, 500);
        x.set(RopeWalk.HOURS, 24);
        x.set(RopeWalk.WALK, 2000);
        for (int fibre = 0; fibre < 3; fibre++) {
            x.spin(fibre, 3000000);
        }
        return x;
    }

    /**
     * Roomy, with plain numbers: a rope takes strands * yarns * 1.5 of its length, and one of fibre 0
     * has the quality 100 and the strength strands * yarns * 100.
     */
    static RopeWalk plain() {
        RopeWalk x = roomy();
        x.set(RopeWalk.LAY, 0);
        x.set(RopeWalk.TWIST, 50);
        x.fibre(0, 100, 50);
        return x;
    }

    /** Plain, with pieces of fibre 0, three strands and a yarn in each, of these lengths. */
    static RopeWalk withPieces(int... lengths) {
        RopeWalk x = plain();
        for (int feet : lengths) {
            x.lay(0, 3, 1, feet);
        }
        return x;
    }

    /** The lengths of the pieces, as in "100 60 ". */
    static String lengths(RopeWalk x) {
        StringBuilder all = new StringBuilder();
        for (int piece = 0; piece < x.count(1); piece++) {
            all.append(x.piece(piece, 3)).append(' ');
        }
        return all.toString();
    }

    /** The last eight characters of a text (or fewer) as the number that put() takes. */
    static long packed(String text) {
        long number = 0;
        for (int i = 0; i < text.length(); i++) {
            number = number << 8 | text.charAt(i);
        }
        return number;
    }

    static int put(RopeWalk x, String text) {
        int length = 0;
        for (int i = 0; i < text.length(); i += 8) {
            length = x.put(packed(text.substring(i, Math.min(text.length(), i + 8))));
        }
        return length;
    }

    /** All that can be seen of a rope walk but for the pad and the history. */
    static String seen(RopeWalk x) {
        StringBuilder all = new StringBuilder();
        for (int what = 0; what < 25; what++) {
            if (what != 7 && what != 8) {
                all.append(x.count(what)).append(' ');
            }
        }
        for (int fibre = 0; fibre < 3; fibre++) {
            for (int what = 0; what < 6; what++) {
                all.append(x.account(fibre, what)).append(' ');
            }
        }
        for (int piece = 0; piece < x.count(1); piece++) {
            for (int what = 0; what < 8; what++) {
                all.append(x.piece(piece, what)).append(' ');
            }
        }
        for (int order = 0; order < x.count(2); order++) {
            for (int what = 0; what < 8; what++) {
                all.append(x.ofOrder(order, what)).append(' ');
            }
        }
        return all.toString();
    }

    /** Three pieces, two orders that can be filled, a full history, both slots, and a pad of three jobs. */
    static RopeWalk ready() {
        RopeWalk x = withPieces(100, 50, 70);
        x.order(0, 10, 20, 2, 4, 5);
        x.save(1);
        x.order(0, 20, 30, 4, 1, 6);
        x.pass(1);
        x.save(0);
        x.set(RopeWalk.FINE, 77);
        put(x, "d1;t0;d2");
        return x;
    }

    /**
     * All that can be seen of a rope walk and what is behind it: its pad, the states of its history and its slots.
     * Each of them is looked at on an object of its own, as an object has no more than 512 calls.
     */
    static String whole(Supplier<RopeWalk> make) {
        StringBuilder all = new StringBuilder(seen(make.get()));
        RopeWalk x = make.get();
        all.append("\nfault ").append(x.fault()).append(" jobs ").append(x.carryOut()).append(": ").append(seen(x));
        for (int undone = 1; undone <= 7; undone++) {
            RopeWalk back = make.get();
            all.append("\nundone ").append(undone).append(": ");
            for (int i = 0; i < undone; i++) {
                all.append(back.undo()).append(' ');
            }
            all.append(seen(back));
        }
        for (int slot = 0; slot < 2; slot++) {
            RopeWalk back = make.get();
            all.append("\nslot ").append(slot).append(": ").append(back.restore(slot)).append(' ').append(seen(back));
        }
        x = make.get();
        return all.append("\npad ").append(x.wipe()).append(" changes ").append(x.count(8)).toString();
    }
}
