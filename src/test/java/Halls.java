/** Halls that several tests start from. */
final class Halls {
    static final int[] EDGES = {
        Integer.MIN_VALUE, -129, -128, -3, -2, -1, 0, 1, 2, 3, 4, 5, 6, 7, 8, 9, 59, 60, 61, 255, 256,
        65535, 65536, Integer.MAX_VALUE
    };

    private Halls() {
    }

    /** Messages 0 to 20: the three slips, then a bundle of 2 places for each base and, within it, each depth. */
    static PostHall ofEveryKind() {
        PostHall hall = new PostHall();
        for (int base = 0; base <= 2; base++) {
            hall.slip(base, 11 + base);
        }
        for (int base = 0; base <= 5; base++) {
            for (int depth = 1; depth <= 3; depth++) {
                hall.bundle(base, depth, 2);
            }
        }
        return hall;
    }

    /** The number that ofEveryKind() gives to the bundle of that base and depth. */
    static int bundleOf(int base, int depth) {
        return 2 + 3 * base + depth;
    }

    static PostHall full() {
        PostHall hall = new PostHall();
        for (int i = 0; i < 60; i++) {
            hall.slip(0, i);
        }
        return hall;
    }

    /** Everything of a hall that a call can tell, as one text; of a hall of few messages, for an object has 512 calls. */
    static String state(PostHall hall) {
        StringBuilder text = new StringBuilder();
        for (int what = 0; what <= 2; what++) {
            text.append(hall.count(what)).append(' ');
        }
        for (int what = 0; what <= 4; what++) {
            text.append(hall.told(what)).append(' ');
        }
        for (int m = 0; m < hall.count(0); m++) {
            text.append('\n').append(m).append(':');
            for (int what = 0; what <= 2; what++) {
                text.append(' ').append(hall.about(m, what));
            }
            for (int i = -1; i <= 8; i++) {
                text.append(' ').append(hall.placed(m, i)).append('/').append(hall.number(m, i));
            }
        }
        for (int k = 0; k <= 7; k++) {
            text.append('\n').append('c').append(k).append(':');
            for (int what = 0; what <= 6; what++) {
                text.append(' ').append(hall.of(k, what));
            }
        }
        return text.toString();
    }
}
