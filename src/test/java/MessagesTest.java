/** Promises 1 to 9: a new object, slip, bundle, place, placed, figure, number, is, about. */
public final class MessagesTest {
    private static final Due T = new Due("MessagesTest");
    private static final int NONE = PostHall.NONE, BAD = PostHall.BAD, FULL = PostHall.FULL;
    private static final int NO = PostHall.NO, SIZE = PostHall.SIZE;

    public static void main(String[] args) {
        newObject();
        slips();
        bundles();
        fullHalls();
        placesAndTheirRefusals();
        whatBundlesHold();
        figures();
        numbers();
        whatPassesForWhat();
        about();
        refusalsChangeNothing();
        T.end();
    }

    private static void newObject() {
        PostHall hall = new PostHall();
        T.due("1: messages", hall.count(0), 0);
        T.due("1: counters that are set", hall.count(1), 0);
        T.due("1: sends", hall.count(2), 0);
        for (int k = 0; k < 8; k++) {
            T.due("1: shut of a counter that is not set", hall.shut(k, true), BAD);
            T.due("1: job of a counter that is not set", hall.job(k, 0, 0, NONE, 0), BAD);
        }
        T.due("1: about(0, 0)", hall.about(0, 0), BAD);
        T.due("1: send(0, 0)", hall.send(0, 0), BAD);
        PostHall other = new PostHall();
        hall.slip(0, 1);
        hall.counter(0, 0, 0, 0, 0);
        T.due("1: objects share no messages", other.count(0), 0);
        T.due("1: objects share no counters", other.count(1), 0);
    }

    private static void slips() {
        PostHall hall = new PostHall();
        for (int base : Halls.EDGES) {
            boolean known = base >= 0 && base <= 2;
            int next = hall.count(0);
            T.due("2: slip(" + base + ", 5)", hall.slip(base, 5), known ? next : BAD);
            T.due("2: messages behind it", hall.count(0), known ? next + 1 : next);
        }
        int least = hall.slip(0, Integer.MIN_VALUE);
        int most = hall.slip(1, Integer.MAX_VALUE);
        T.due("2: the least stamp", hall.number(least, -1), Integer.MIN_VALUE);
        T.due("2: the greatest stamp", hall.number(most, -1), Integer.MAX_VALUE);
        T.due("2: a slip's base", hall.about(most, 0), 1);
        T.due("2: a slip's depth", hall.about(most, 1), 0);
        T.due("2: a slip's places", hall.about(most, 2), 0);
    }

    private static void bundles() {
        PostHall hall = new PostHall();
        int next = 0;
        for (int base = 0; base <= 5; base++) {
            for (int depth = 1; depth <= 3; depth++) {
                int n = (base + depth) % 9;
                T.due("3: bundle(" + base + ", " + depth + ", " + n + ")", hall.bundle(base, depth, n), next);
                T.due("3: its base", hall.about(next, 0), base);
                T.due("3: its depth", hall.about(next, 1), depth);
                T.due("3: its places", hall.about(next, 2), n);
                for (int i = 0; i < n; i++) {
                    boolean figures = base >= 4 && depth == 1;
                    T.due("3: what place " + i + " has at first", hall.placed(next, i), figures ? NO : NONE);
                    T.due("3: number " + i + " at first", hall.number(next, i), 0);
                }
                next++;
            }
        }
        for (int odd : Halls.EDGES) {
            if (odd < 0 || odd > 5) {
                T.due("3: base " + odd, hall.bundle(odd, 1, 1), BAD);
                T.due("3: base " + odd + " ahead of SIZE", hall.bundle(odd, 1, -1), BAD);
            }
            if (odd < 1 || odd > 3) {
                T.due("3: depth " + odd, hall.bundle(0, odd, 1), BAD);
                T.due("3: depth " + odd + " of figures", hall.bundle(5, odd, 1), BAD);
            }
            if (odd < 0) {
                T.due("3: n " + odd, hall.bundle(0, 1, odd), SIZE);
            }
            if (odd > 8) {
                T.due("3: n " + odd, hall.bundle(4, 1, odd), BAD);
            }
        }
        T.due("3: refusals make no message", hall.count(0), next);
        T.due("3: 0 places", hall.bundle(4, 1, 0), next);
        T.due("3: 8 places", hall.bundle(0, 1, 8), next + 1);
        T.due("3: 8 places are there", hall.placed(next + 1, 7), NONE);
    }

    private static void fullHalls() {
        PostHall hall = Halls.full();
        T.due("2: 60 messages", hall.count(0), 60);
        T.due("2: the 61st", hall.slip(0, 1), FULL);
        T.due("2: BAD ahead of FULL", hall.slip(3, 1), BAD);
        T.due("3: the 61st", hall.bundle(0, 1, 1), FULL);
        T.due("3: BAD ahead of FULL", hall.bundle(0, 1, 9), BAD);
        T.due("3: FULL ahead of SIZE", hall.bundle(0, 1, -1), FULL);
        T.due("2: still 60 messages", hall.count(0), 60);
        T.due("2: the 60th's stamp", hall.number(59, -1), 59);
        PostHall nearly = new PostHall();
        for (int i = 0; i < 59; i++) {
            nearly.bundle(0, 1, 0);
        }
        T.due("3: the 60th", nearly.bundle(4, 2, 3), 59);
        T.due("3: then it is full", nearly.bundle(4, 2, 3), FULL);
    }

    private static void placesAndTheirRefusals() {
        PostHall hall = Halls.ofEveryKind();
        int bundle = Halls.bundleOf(0, 1);
        T.due("4: place a slip", hall.place(bundle, 0, 0), 1);
        T.due("4: place a card", hall.place(bundle, 1, 1), 1);
        T.due("5: the slip", hall.placed(bundle, 0), 0);
        T.due("5: the card", hall.placed(bundle, 1), 1);
        T.due("4: take it away", hall.place(bundle, 0, NONE), 1);
        T.due("5: none is left", hall.placed(bundle, 0), NONE);
        T.due("5: the card stays", hall.placed(bundle, 1), 1);
        for (int odd : Halls.EDGES) {
            if (odd < 0 || odd > 1) {
                T.due("4: place " + odd, hall.place(bundle, odd, 0), NO);
                T.due("5: place " + odd, hall.placed(bundle, odd), NO);
            }
            if (odd < 0 || odd > 20) {
                T.due("4: message " + odd, hall.place(odd, 0, 0), BAD);
                T.due("5: message " + odd, hall.placed(odd, 0), BAD);
            }
            if (odd < -1 || odd > 20) {
                T.due("4: laid " + odd, hall.place(bundle, 0, odd), BAD);
                T.due("4: BAD ahead of NO, slip", hall.place(0, 0, odd), BAD);
                T.due("4: BAD ahead of NO, place", hall.place(bundle, 2, odd), BAD);
            }
        }
        T.due("4: a slip has no places", hall.place(0, 0, NONE), NO);
        T.due("5: a slip has no places", hall.placed(0, 0), NO);
        T.due("4: bytes", hall.place(Halls.bundleOf(4, 1), 0, NONE), NO);
        T.due("5: bytes", hall.placed(Halls.bundleOf(4, 1), 0), NO);
        T.due("4: chars", hall.place(Halls.bundleOf(5, 1), 0, NONE), NO);
        T.due("5: chars", hall.placed(Halls.bundleOf(5, 1), 0), NO);
        T.due("4: a rack of bytes is no figures", hall.place(Halls.bundleOf(4, 2), 0, Halls.bundleOf(4, 1)), 1);
        T.due("5: a rack of bytes", hall.placed(Halls.bundleOf(4, 2), 0), Halls.bundleOf(4, 1));
        T.due("4: a bundle does not hold itself", hall.place(bundle, 0, bundle), NO);
        T.due("5: refusals lay nothing", hall.placed(bundle, 0), NONE);
    }

    private static void whatBundlesHold() {
        for (int base = 0; base <= 5; base++) {
            for (int depth = 1; depth <= 3; depth++) {
                if (base >= 4 && depth == 1) {
                    continue;
                }
                PostHall hall = Halls.ofEveryKind();
                int bundle = Halls.bundleOf(base, depth);
                for (int x = 0; x <= 20; x++) {
                    boolean holds = hall.about(x, 1) == depth - 1 && passes(hall.about(x, 0), base);
                    String call = "place(" + bundle + ", 1, " + x + ")";
                    T.due("4: " + call, hall.place(bundle, 1, x), holds ? 1 : NO);
                    T.due("5: behind " + call, hall.placed(bundle, 1), holds ? x : NONE);
                    hall.place(bundle, 1, NONE);
                }
            }
        }
    }

    private static boolean passes(int base, int b) {
        int[][] ways = {{0}, {1, 0}, {2, 0, 3}, {3}, {4}, {5}};
        for (int way : ways[base]) {
            if (way == b) {
                return true;
            }
        }
        return false;
    }

    private static void figures() {
        PostHall hall = Halls.ofEveryKind();
        int bytes = Halls.bundleOf(4, 1);
        int chars = Halls.bundleOf(5, 1);
        for (int v : Halls.EDGES) {
            T.due("6: figure(bytes, 1, " + v + ")", hall.figure(bytes, 1, v), 1);
            T.due("7: as a byte " + v, hall.number(bytes, 1), (byte) v);
            T.due("6: figure(chars, 0, " + v + ")", hall.figure(chars, 0, v), 1);
            T.due("7: as a char " + v, hall.number(chars, 0), (char) v);
        }
        hall.figure(bytes, 0, 200);
        T.due("7: 200 as a byte", hall.number(bytes, 0), -56);
        hall.figure(chars, 1, -1);
        T.due("7: -1 as a char", hall.number(chars, 1), 65535);
        for (int odd : Halls.EDGES) {
            if (odd < 0 || odd > 1) {
                T.due("6: place " + odd, hall.figure(bytes, odd, 1), NO);
                T.due("7: place " + odd, hall.number(bytes, odd), 0);
            }
            if (odd < 0 || odd > 20) {
                T.due("6: message " + odd, hall.figure(odd, 0, 1), BAD);
            }
        }
        T.due("6: of a slip", hall.figure(0, 0, 1), NO);
        T.due("6: of a slip, -1", hall.figure(0, -1, 1), NO);
        T.due("7: its stamp stays", hall.number(0, -1), 11);
        T.due("6: of a bundle", hall.figure(Halls.bundleOf(0, 1), 0, 1), NO);
        T.due("6: of a rack of bytes", hall.figure(Halls.bundleOf(4, 2), 0, 1), NO);
        T.due("6: of no places", hall.figure(hall.bundle(4, 1, 0), 0, 1), NO);
    }

    private static void numbers() {
        PostHall hall = Halls.ofEveryKind();
        int bundle = Halls.bundleOf(0, 1);
        hall.place(bundle, 0, 2);
        T.due("7: a stamp", hall.number(2, -1), 13);
        T.due("7: a bundle has no stamp", hall.number(bundle, -1), 0);
        T.due("7: a bundle has no numbers", hall.number(bundle, 0), 0);
        T.due("7: figures have no stamp", hall.number(Halls.bundleOf(4, 1), -1), 0);
        for (int odd : Halls.EDGES) {
            if (odd != -1) {
                T.due("7: a slip, " + odd, hall.number(2, odd), 0);
            }
            if (odd < 0 || odd > 20) {
                T.due("7: message " + odd, hall.number(odd, -1), 0);
                T.due("7: message " + odd, hall.number(odd, 0), 0);
            }
        }
    }

    private static void whatPassesForWhat() {
        for (int m = 0; m <= 20; m++) {
            PostHall hall = Halls.ofEveryKind();
            for (int b = 0; b <= 5; b++) {
                for (int d = b < 4 ? 0 : 1; d <= 3; d++) {
                    boolean is = hall.about(m, 1) == d && passes(hall.about(m, 0), b);
                    T.due("8: is(" + m + ", " + b + ", " + d + ")", hall.is(m, b, d), is ? 1 : 0);
                }
            }
        }
        PostHall hall = Halls.ofEveryKind();
        T.due("8: (4, 0)", hall.is(0, 4, 0), BAD);
        T.due("8: (5, 0)", hall.is(0, 5, 0), BAD);
        for (int odd : Halls.EDGES) {
            if (odd < 0 || odd > 5) {
                T.due("8: base " + odd, hall.is(0, odd, 1), BAD);
            }
            if (odd < 0 || odd > 3) {
                T.due("8: depth " + odd, hall.is(0, 0, odd), BAD);
                T.due("8: depth " + odd + " of figures", hall.is(15, 4, odd), BAD);
            }
            if (odd < 0 || odd > 20) {
                T.due("8: message " + odd, hall.is(odd, 0, 0), BAD);
            }
        }
    }

    private static void about() {
        PostHall hall = new PostHall();
        hall.bundle(5, 1, 7);
        T.due("9: base", hall.about(0, 0), 5);
        T.due("9: depth", hall.about(0, 1), 1);
        T.due("9: places", hall.about(0, 2), 7);
        for (int odd : Halls.EDGES) {
            if (odd < 0 || odd > 2) {
                T.due("9: what " + odd, hall.about(0, odd), BAD);
            }
            if (odd != 0) {
                T.due("9: message " + odd, hall.about(odd, 0), BAD);
            }
        }
    }

    private static void refusalsChangeNothing() {
        PostHall hall = new PostHall();
        int slip = hall.slip(0, 1);
        int card = hall.slip(1, 2);
        int cards = hall.bundle(1, 1, 2);
        int bytes = hall.bundle(4, 1, 2);
        hall.place(cards, 0, card);
        hall.figure(bytes, 0, 9);
        String before = Halls.state(hall);
        hall.slip(3, 1);
        hall.bundle(0, 1, -1);
        hall.bundle(6, 1, 1);
        hall.place(cards, 0, slip);
        hall.place(cards, 0, 4);
        hall.place(cards, 0, bytes);
        hall.place(bytes, 0, card);
        hall.figure(bytes, 2, 1);
        hall.figure(slip, 0, 1);
        hall.figure(cards, 0, 0);
        hall.is(slip, 4, 0);
        hall.about(slip, 3);
        T.due("refusals change nothing", Halls.state(hall).equals(before));
    }
}
