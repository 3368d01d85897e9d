import java.util.function.Supplier;
import java.util.function.ToIntFunction;

/** The boundary cases that the document names for messages and for promises 1 to 9, sentence by sentence. */
public final class MessageBoundsTest {
    private static final Due T = new Due("MessageBoundsTest");
    private static final Refusals R = new Refusals(T);
    private static final int NONE = PostHall.NONE, BAD = PostHall.BAD, FULL = PostHall.FULL;
    private static final int NO = PostHall.NO, SIZE = PostHall.SIZE;
    private static final int MIN = Integer.MIN_VALUE, MAX = Integer.MAX_VALUE;

    /** No base, no depth, no number of places, of a message (8 are there) or of a counter is among them. */
    private static final int[] FAR = {MIN, MIN + 1, -1000, 1000, MAX - 1, MAX};

    public static void main(String[] args) {
        newObjectIsEmpty();
        sixtyMessagesAtMost();
        sixtyMessagesOfBothSorts();
        refusedOnesTakeNoNumber();
        slipsOfBase0To2();
        stampsAreInts();
        bundlesOfBase0To5();
        bundlesOfDepth1To3();
        bundlesOf0To8Places();
        placesBeginEmpty();
        orderOfRefusalsOfNewMessages();
        placesOfEveryLength();
        placeOfNoMessage();
        placeOfWhatHasNoPlaces();
        placeThatIsNotThere();
        placeOfWhatIsNotHeld();
        placeOfNone();
        bytesWrap();
        charsWrap();
        figuresOfEveryLength();
        figureThatIsNotThere();
        numberThatIsNotThere();
        isOfKindsAtTheirBounds();
        isOfNoMessage();
        aboutAtItsBounds();
        theLastMessageOfAFullHall();
        T.end();
    }

    private static void refused(String call, ToIntFunction<PostHall> asked, int want) {
        R.refused(call, Refusals::furnished, asked, want);
    }

    private static void newObjectIsEmpty() {
        Supplier<PostHall> made = PostHall::new;
        R.refused("1: place(0, 0, NONE)", made, hall -> hall.place(0, 0, NONE), BAD);
        R.refused("1: placed(0, 0)", made, hall -> hall.placed(0, 0), BAD);
        R.refused("1: figure(0, 0, 1)", made, hall -> hall.figure(0, 0, 1), BAD);
        R.refused("1: number(0, -1)", made, hall -> hall.number(0, -1), 0);
        R.refused("1: is(0, 0, 0)", made, hall -> hall.is(0, 0, 0), BAD);
        R.refused("1: about(0, 0)", made, hall -> hall.about(0, 0), BAD);
        R.refused("1: send(0, 0)", made, hall -> hall.send(0, 0), BAD);
        for (int k = 0; k <= 7; k++) {
            int at = k;
            R.refused("1: job(" + k + ", ..)", made, hall -> hall.job(at, 0, 0, NONE, 0), BAD);
            R.refused("1: shut(" + k + ", true)", made, hall -> hall.shut(at, true), BAD);
            R.refused("1: of(" + k + ", 4)", made, hall -> hall.of(at, 4), 0);
        }
    }

    private static void sixtyMessagesAtMost() {
        PostHall slips = new PostHall();
        PostHall bundles = new PostHall();
        for (int m = 0; m < 60; m++) {
            T.due("60 at most: slip " + m, slips.slip(m % 3, m), m);
            T.due("60 at most: slips so far", slips.count(0), m + 1);
            T.due("60 at most: bundle " + m, bundles.bundle(m % 6, 1 + m % 3, m % 9), m);
            T.due("60 at most: bundles so far", bundles.count(0), m + 1);
        }
        for (int more = 0; more < 3; more++) {
            T.due("60 at most: one more slip", slips.slip(0, 1), FULL);
            T.due("60 at most: one more bundle", bundles.bundle(0, 1, 1), FULL);
        }
        T.due("60 at most: slips", slips.count(0), 60);
        T.due("60 at most: bundles", bundles.count(0), 60);
    }

    private static void sixtyMessagesOfBothSorts() {
        Supplier<PostHall> full = Refusals::full;
        T.due("60 at most: of both sorts", full.get().count(0), 60);
        R.refused("2: slip into a full hall", full, hall -> hall.slip(0, 1), FULL);
        R.refused("2: a parcel into a full hall", full, hall -> hall.slip(2, MIN), FULL);
        R.refused("3: bundle into a full hall", full, hall -> hall.bundle(0, 1, 0), FULL);
        R.refused("3: figures into a full hall", full, hall -> hall.bundle(5, 1, 8), FULL);
    }

    private static void refusedOnesTakeNoNumber() {
        PostHall hall = new PostHall();
        for (int m = 0; m < 60; m++) {
            hall.slip(3, m);
            hall.bundle(6, 1, 1);
            hall.bundle(0, 1, -1);
            T.due("60 at most: refused ones are none of them", hall.slip(0, m), m);
        }
        T.due("60 at most: then it is full", hall.slip(0, 1), FULL);
    }

    private static void slipsOfBase0To2() {
        for (int base = 0; base <= 2; base++) {
            PostHall hall = new PostHall();
            T.due("2: a slip of base " + base, hall.slip(base, 4), 0);
            T.due("2: its base", hall.about(0, 0), base);
            T.due("2: its depth", hall.about(0, 1), 0);
            T.due("2: its places", hall.about(0, 2), 0);
        }
        for (int base : new int[] {-1, 3, 4, 5, 6, -2}) {
            refused("2: slip(" + base + ", 1)", hall -> hall.slip(base, 1), BAD);
        }
        for (int base : FAR) {
            refused("2: slip(" + base + ", 1)", hall -> hall.slip(base, 1), BAD);
        }
    }

    private static void stampsAreInts() {
        PostHall hall = new PostHall();
        int[] stamps = {MIN, MIN + 1, -129, -1, 0, 1, 127, 128, 65535, 65536, MAX - 1, MAX};
        for (int m = 0; m < stamps.length; m++) {
            T.due("2: slip with stamp " + stamps[m], hall.slip(m % 3, stamps[m]), m);
            T.due("7: its stamp", hall.number(m, -1), stamps[m]);
        }
    }

    private static void bundlesOfBase0To5() {
        for (int base = 0; base <= 5; base++) {
            PostHall hall = new PostHall();
            T.due("3: a bundle of base " + base, hall.bundle(base, 1, 1), 0);
            T.due("9: its base", hall.about(0, 0), base);
        }
        for (int base : new int[] {-1, 6, 7}) {
            refused("3: bundle(" + base + ", 1, 1)", hall -> hall.bundle(base, 1, 1), BAD);
            refused("3: bundle(" + base + ", 3, 1)", hall -> hall.bundle(base, 3, 1), BAD);
        }
        for (int base : FAR) {
            refused("3: bundle(" + base + ", 2, 1)", hall -> hall.bundle(base, 2, 1), BAD);
        }
    }

    private static void bundlesOfDepth1To3() {
        for (int base = 0; base <= 5; base++) {
            int of = base;
            for (int depth = 1; depth <= 3; depth++) {
                PostHall hall = new PostHall();
                T.due("3: a bundle of depth " + depth, hall.bundle(base, depth, 1), 0);
                T.due("9: its depth", hall.about(0, 1), depth);
            }
            for (int depth : new int[] {-1, 0, 4, 5, MIN, MAX}) {
                refused("3: bundle(" + base + ", " + depth + ", 1)", hall -> hall.bundle(of, depth, 1), BAD);
            }
        }
    }

    private static void bundlesOf0To8Places() {
        for (int base = 0; base <= 5; base++) {
            for (int depth = 1; depth <= 3; depth++) {
                PostHall hall = new PostHall();
                for (int n = 0; n <= 8; n++) {
                    T.due("3: bundle(" + base + ", " + depth + ", " + n + ")", hall.bundle(base, depth, n), n);
                    T.due("9: its places", hall.about(n, 2), n);
                }
                int ofBase = base;
                int ofDepth = depth;
                for (int n : new int[] {9, 10, MAX}) {
                    refused("3: n " + n + " is above 8", at -> at.bundle(ofBase, ofDepth, n), BAD);
                }
                for (int n : new int[] {-1, -2, MIN}) {
                    refused("3: n " + n + " is below 0", at -> at.bundle(ofBase, ofDepth, n), SIZE);
                }
            }
        }
    }

    private static void placesBeginEmpty() {
        for (int base = 0; base <= 5; base++) {
            for (int depth = 1; depth <= 3; depth++) {
                PostHall hall = new PostHall();
                hall.slip(0, 5);
                hall.bundle(base, depth, 8);
                boolean figures = base >= 4 && depth == 1;
                for (int i = 0; i < 8; i++) {
                    T.due("none at first: place " + i, hall.placed(1, i), figures ? NO : NONE);
                    T.due("0 at first: number " + i, hall.number(1, i), 0);
                }
            }
        }
    }

    private static void orderOfRefusalsOfNewMessages() {
        Supplier<PostHall> full = Refusals::full;
        R.refused("2: BAD ahead of FULL", full, hall -> hall.slip(3, 1), BAD);
        R.refused("2: BAD ahead of FULL", full, hall -> hall.slip(-1, 1), BAD);
        R.refused("3: a base ahead of FULL", full, hall -> hall.bundle(6, 1, 1), BAD);
        R.refused("3: a depth ahead of FULL", full, hall -> hall.bundle(0, 0, 1), BAD);
        R.refused("3: a depth ahead of FULL", full, hall -> hall.bundle(0, 4, 1), BAD);
        R.refused("3: n above 8 ahead of FULL", full, hall -> hall.bundle(0, 1, 9), BAD);
        R.refused("3: FULL ahead of SIZE", full, hall -> hall.bundle(0, 1, -1), FULL);
        refused("3: a base ahead of SIZE", hall -> hall.bundle(-1, 1, -1), BAD);
        refused("3: a base ahead of SIZE", hall -> hall.bundle(6, 1, MIN), BAD);
        refused("3: a depth ahead of SIZE", hall -> hall.bundle(0, 0, -1), BAD);
        refused("3: a depth ahead of SIZE", hall -> hall.bundle(5, 4, -1), BAD);
    }

    private static void placesOfEveryLength() {
        for (int n = 0; n <= 8; n++) {
            PostHall hall = new PostHall();
            hall.bundle(0, 1, n);
            for (int x = 0; x < 10; x++) {
                hall.slip(x % 3, x);
            }
            for (int i = -2; i <= 9; i++) {
                boolean there = i >= 0 && i < n;
                T.due("4: place " + i + " of " + n, hall.place(0, i, 1 + Math.max(0, i)), there ? 1 : NO);
            }
            for (int i = -2; i <= 9; i++) {
                boolean there = i >= 0 && i < n;
                T.due("5: place " + i + " of " + n, hall.placed(0, i), there ? 1 + i : NO);
            }
        }
    }

    private static void placeOfNoMessage() {
        for (int m : new int[] {-1, -2, 8, 9, 59, 60, 61, MIN, MAX}) {
            refused("4: place(" + m + ", 0, 0)", hall -> hall.place(m, 0, 0), BAD);
            refused("4: place(" + m + ", 0, NONE)", hall -> hall.place(m, 0, NONE), BAD);
            refused("4: BAD ahead of NO", hall -> hall.place(m, 8, 0), BAD);
            refused("5: placed(" + m + ", 0)", hall -> hall.placed(m, 0), BAD);
            refused("5: BAD ahead of NO", hall -> hall.placed(m, -1), BAD);
        }
        for (int x : new int[] {-2, -3, 8, 9, 59, 60, 61, MIN, MAX}) {
            refused("4: place(3, 0, " + x + ")", hall -> hall.place(3, 0, x), BAD);
            refused("4: BAD ahead of NO, a slip", hall -> hall.place(0, 0, x), BAD);
            refused("4: BAD ahead of NO, figures", hall -> hall.place(4, 0, x), BAD);
            refused("4: BAD ahead of NO, no such place", hall -> hall.place(3, 2, x), BAD);
        }
        T.due("4: the last message", Refusals.furnished().place(7, 0, 1), 1);
        PostHall hall = Refusals.furnished();
        hall.slip(0, 1);
        T.due("4: the last message is laid", hall.place(3, 0, 8), 1);
        T.due("5: it is there", hall.placed(3, 0), 8);
    }

    private static void placeOfWhatHasNoPlaces() {
        for (int m : new int[] {0, 1, 2, 4, 5}) {
            for (int i : new int[] {-1, 0, 1, 2}) {
                refused("4: place(" + m + ", " + i + ", 0)", hall -> hall.place(m, i, 0), NO);
                refused("4: place(" + m + ", " + i + ", NONE)", hall -> hall.place(m, i, NONE), NO);
                refused("5: placed(" + m + ", " + i + ")", hall -> hall.placed(m, i), NO);
            }
        }
    }

    private static void placeThatIsNotThere() {
        for (int i : new int[] {-2, -1, 2, 3, 8, MIN, MAX}) {
            refused("4: place(3, " + i + ", 0)", hall -> hall.place(3, i, 0), NO);
            refused("4: place(3, " + i + ", NONE)", hall -> hall.place(3, i, NONE), NO);
            refused("5: placed(3, " + i + ")", hall -> hall.placed(3, i), NO);
        }
        for (int i : new int[] {-1, 1}) {
            refused("4: place(6, " + i + ", 4)", hall -> hall.place(6, i, 4), NO);
            refused("5: placed(6, " + i + ")", hall -> hall.placed(6, i), NO);
        }
    }

    private static void placeOfWhatIsNotHeld() {
        refused("4: a slip among cards", hall -> hall.place(7, 0, 0), NO);
        refused("4: a parcel among cards", hall -> hall.place(7, 0, 2), NO);
        refused("4: a bundle in a bundle", hall -> hall.place(3, 0, 7), NO);
        refused("4: a bundle in itself", hall -> hall.place(3, 0, 3), NO);
        refused("4: figures among slips", hall -> hall.place(3, 0, 4), NO);
        refused("4: chars in a rack of bytes", hall -> hall.place(6, 0, 5), NO);
        refused("4: a rack of bytes in itself", hall -> hall.place(6, 0, 6), NO);
        refused("4: a slip in a rack", hall -> hall.place(6, 0, 0), NO);
    }

    private static void placeOfNone() {
        PostHall hall = Refusals.furnished();
        T.due("4: none where a message is", hall.place(3, 0, NONE), 1);
        T.due("5: none", hall.placed(3, 0), NONE);
        T.due("4: none where none is", hall.place(3, 0, NONE), 1);
        T.due("5: none", hall.placed(3, 0), NONE);
        T.due("4: none in a rack of bytes", hall.place(6, 0, NONE), 1);
        T.due("5: none", hall.placed(6, 0), NONE);
    }

    private static void bytesWrap() {
        int[] given = {-128, -127, -1, 0, 1, 126, 127, 128, 129, 255, 256, 257, -129, -130, -256, -257, MIN, MAX};
        int[] kept = {-128, -127, -1, 0, 1, 126, 127, -128, -127, -1, 0, 1, 127, 126, 0, -1, 0, -1};
        for (int i = 0; i < given.length; i++) {
            PostHall hall = Refusals.furnished();
            T.due("6: figure(4, 0, " + given[i] + ")", hall.figure(4, 0, given[i]), 1);
            T.due("7: the byte of " + given[i], hall.number(4, 0), kept[i]);
            T.due("7: the other byte stays", hall.number(4, 1), -7);
        }
    }

    private static void charsWrap() {
        int[] given = {0, 1, 127, 128, 255, 256, 32767, 32768, 65534, 65535, 65536, 65537, -1, -65535, -65536, MIN, MAX};
        int[] kept = {0, 1, 127, 128, 255, 256, 32767, 32768, 65534, 65535, 0, 1, 65535, 1, 0, 0, 65535};
        for (int i = 0; i < given.length; i++) {
            PostHall hall = Refusals.furnished();
            T.due("6: figure(5, 0, " + given[i] + ")", hall.figure(5, 0, given[i]), 1);
            T.due("7: the char of " + given[i], hall.number(5, 0), kept[i]);
            T.due("7: the other char stays", hall.number(5, 1), 65535);
        }
    }

    private static void figuresOfEveryLength() {
        for (int base = 4; base <= 5; base++) {
            for (int n = 0; n <= 8; n++) {
                PostHall hall = new PostHall();
                hall.bundle(base, 1, n);
                for (int i = -2; i <= 9; i++) {
                    boolean there = i >= 0 && i < n;
                    T.due("6: number " + i + " of " + n, hall.figure(0, i, 50 + i), there ? 1 : NO);
                }
                for (int i = -2; i <= 9; i++) {
                    boolean there = i >= 0 && i < n;
                    T.due("7: number " + i + " of " + n, hall.number(0, i), there ? 50 + i : 0);
                }
            }
        }
    }

    private static void figureThatIsNotThere() {
        for (int m : new int[] {-1, -2, 8, 9, 59, 60, 61, MIN, MAX}) {
            refused("6: figure(" + m + ", 0, 1)", hall -> hall.figure(m, 0, 1), BAD);
            refused("6: BAD ahead of NO", hall -> hall.figure(m, -1, 1), BAD);
        }
        for (int m : new int[] {0, 1, 2, 3, 6, 7}) {
            refused("6: no figures, figure(" + m + ", 0, 1)", hall -> hall.figure(m, 0, 1), NO);
            refused("6: no figures, figure(" + m + ", -1, 1)", hall -> hall.figure(m, -1, 1), NO);
        }
        for (int i : new int[] {-2, -1, 2, 3, 8, MIN, MAX}) {
            refused("6: figure(4, " + i + ", 1)", hall -> hall.figure(4, i, 1), NO);
            refused("6: figure(5, " + i + ", 1)", hall -> hall.figure(5, i, 1), NO);
        }
    }

    private static void numberThatIsNotThere() {
        for (int m : new int[] {-1, -2, 8, 9, 59, 60, 61, MIN, MAX}) {
            refused("7: number(" + m + ", -1)", hall -> hall.number(m, -1), 0);
            refused("7: number(" + m + ", 0)", hall -> hall.number(m, 0), 0);
        }
        for (int i : new int[] {-2, 0, 1, MIN, MAX}) {
            refused("7: a slip's number " + i, hall -> hall.number(0, i), 0);
        }
        for (int i : new int[] {-2, -1, 2, 3, 8, MIN, MAX}) {
            refused("7: number(4, " + i + ")", hall -> hall.number(4, i), 0);
            refused("7: number(5, " + i + ")", hall -> hall.number(5, i), 0);
        }
        for (int i : new int[] {-1, 0, 1, 2}) {
            refused("7: a bundle's number " + i, hall -> hall.number(3, i), 0);
            refused("7: a rack's number " + i, hall -> hall.number(6, i), 0);
        }
    }

    private static void isOfKindsAtTheirBounds() {
        for (int b = -2; b <= 7; b++) {
            for (int d = -2; d <= 5; d++) {
                boolean kind = b >= 0 && b <= 3 && d >= 0 && d <= 3 || b >= 4 && b <= 5 && d >= 1 && d <= 3;
                int ofBase = b;
                int ofDepth = d;
                if (kind) {
                    T.due("8: is(0, " + b + ", " + d + ")", Refusals.furnished().is(0, b, d), b == 0 && d == 0 ? 1 : 0);
                } else {
                    refused("8: is(0, " + b + ", " + d + ")", hall -> hall.is(0, ofBase, ofDepth), BAD);
                    refused("8: is(4, " + b + ", " + d + ")", hall -> hall.is(4, ofBase, ofDepth), BAD);
                }
            }
        }
        for (int far : FAR) {
            refused("8: is(0, " + far + ", 1)", hall -> hall.is(0, far, 1), BAD);
            refused("8: is(0, 0, " + far + ")", hall -> hall.is(0, 0, far), BAD);
            refused("8: is(4, 4, " + far + ")", hall -> hall.is(4, 4, far), BAD);
        }
    }

    private static void isOfNoMessage() {
        for (int m : new int[] {-1, -2, 8, 9, 59, 60, 61, MIN, MAX}) {
            refused("8: is(" + m + ", 0, 0)", hall -> hall.is(m, 0, 0), BAD);
        }
        T.due("8: the last message", Refusals.furnished().is(7, 1, 1), 1);
    }

    private static void aboutAtItsBounds() {
        int[][] want = {
            {0, 0, 0}, {1, 0, 0}, {2, 0, 0}, {0, 1, 2}, {4, 1, 2}, {5, 1, 2}, {4, 2, 1}, {1, 1, 1}
        };
        PostHall hall = Refusals.furnished();
        for (int m = 0; m < want.length; m++) {
            for (int what = 0; what <= 2; what++) {
                T.due("9: about(" + m + ", " + what + ")", hall.about(m, what), want[m][what]);
            }
        }
        for (int m : new int[] {-1, -2, 8, 9, 59, 60, 61, MIN, MAX}) {
            refused("9: about(" + m + ", 0)", at -> at.about(m, 0), BAD);
            refused("9: about(" + m + ", 2)", at -> at.about(m, 2), BAD);
        }
        for (int what : new int[] {-2, -1, 3, 4, MIN, MAX}) {
            refused("9: about(0, " + what + ")", at -> at.about(0, what), BAD);
            refused("9: about(3, " + what + ")", at -> at.about(3, what), BAD);
        }
    }

    private static void theLastMessageOfAFullHall() {
        PostHall hall = Refusals.full();
        T.due("message 59: its stamp", hall.number(59, -1), 159);
        T.due("message 59: its base", hall.about(59, 0), 2);
        T.due("message 59: it is", hall.is(59, 3, 0), 1);
        T.due("message 59: it is placed", hall.place(0, 1, 59), 1);
        T.due("message 59: it is there", hall.placed(0, 1), 59);
        T.due("message 59: it has no places", hall.placed(59, 0), NO);
        T.due("message 59: it has no figures", hall.figure(59, 0, 1), NO);
        T.due("message 59: it is sent", hall.send(59, 0), PostHall.LOST);
        hall.counter(0, 0, 0, 0, 0);
        T.due("message 59: it is owned", hall.job(0, 0, 0, 59, 0), 1);
        Supplier<PostHall> full = Refusals::full;
        R.refused("message 60: stamp", full, at -> at.number(60, -1), 0);
        R.refused("message 60: base", full, at -> at.about(60, 0), BAD);
        R.refused("message 60: is", full, at -> at.is(60, 0, 0), BAD);
        R.refused("message 60: place", full, at -> at.place(0, 1, 60), BAD);
        R.refused("message 60: placed", full, at -> at.placed(60, 0), BAD);
        R.refused("message 60: figure", full, at -> at.figure(60, 0, 1), BAD);
        R.refused("message 60: send", full, at -> at.send(60, 0), BAD);
        T.due("message 60: own", hall.job(0, 0, 0, 60, 0), BAD);
        T.due("message 60: the own stays", hall.of(0, 4), 59);
    }
}
