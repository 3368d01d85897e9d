/** Promises 13 and 14: send with every job and failure, and told. */
public final class SendTest {
    private static final Due T = new Due("SendTest");
    private static final int NONE = PostHall.NONE, BAD = PostHall.BAD, LOST = PostHall.LOST;
    private static final int CAST = -11, INDEX = -12, STORE = -13, NULL = -14, LIMIT = -15;

    public static void main(String[] args) {
        refusals();
        alongTheRow();
        patience();
        shuttingByFalls();
        weigh();
        markSlips();
        markBundles();
        lay();
        layFailsInOrder();
        open();
        spread();
        spreadEndsWithAFailure();
        keep();
        limitWithinAJob();
        limitIsAheadOfAllElse();
        sixteenAreNoLimit();
        limitWithNoMeetingAround();
        told();
        T.end();
    }

    private static void dueTold(String when, PostHall hall, int... want) {
        for (int what = 0; what < want.length; what++) {
            T.due("14: " + when + ": told(" + what + ")", hall.told(what), want[what]);
        }
    }

    private static void dueCounter(String when, PostHall hall, int k, int met, int fell, int shut) {
        T.due("13: " + when + ": met of " + k, hall.of(k, 1), met);
        T.due("13: " + when + ": fell of " + k, hall.of(k, 2), fell);
        T.due("13: " + when + ": shut of " + k, hall.of(k, 3), shut);
    }

    private static void refusals() {
        PostHall hall = new PostHall();
        hall.slip(0, 1);
        for (int odd : Halls.EDGES) {
            if (odd != 0) {
                T.due("13: message " + odd, hall.send(odd, 0), BAD);
            }
            boolean known = odd >= 0 && odd <= 7;
            T.due("13: from counter " + odd, hall.send(0, odd), known ? LOST : BAD);
        }
    }

    private static void alongTheRow() {
        PostHall hall = Halls.ofEveryKind();
        hall.counter(1, 1, 0, 0, 0);
        hall.counter(3, 0, 0, 0, 0);
        hall.counter(5, 3, 0, 3, 0);
        T.due("13: one that asks for another lets it by", hall.send(0, 0), 3);
        T.due("13: the first that asks for it", hall.send(1, 0), 1);
        T.due("13: from behind it", hall.send(1, 2), 3);
        T.due("13: from that one itself", hall.send(1, 3), 3);
        T.due("13: asked as a slip", hall.send(2, 0), 3);
        T.due("13: asked as tracked", hall.send(2, 4), 5);
        T.due("13: from behind all", hall.send(2, 6), LOST);
        T.due("13: nobody asks for a bundle", hall.send(3, 0), LOST);
        dueTold("lost", hall, 0, 0, 1, 0, NONE);
        dueCounter("in a row", hall, 1, 1, 0, 0);
        dueCounter("in a row", hall, 3, 4, 0, 0);
        dueCounter("in a row", hall, 5, 1, 0, 0);
    }

    private static void patience() {
        PostHall hall = Halls.ofEveryKind();
        hall.counter(0, 0, 0, 1, 0);
        hall.counter(2, 0, 0, 0, 0);
        T.due("13: taken wrongly ends the sending", hall.send(0, 0), CAST);
        dueTold("ended", hall, 1, 0, 0, 1, 0);
        hall.job(0, 0, 0, NONE, 1);
        T.due("13: a patient one lets it by", hall.send(0, 0), 2);
        dueTold("let by", hall, 2, 1, 0, 1, 0);
        dueCounter("patience", hall, 0, 2, 2, 0);
        T.due("13: a patient one does its job all the same", hall.send(1, 0), 0);
        hall.shut(2, true);
        T.due("13: let by and lost", hall.send(0, 0), LOST);
        dueTold("let by and lost", hall, 1, 0, 1, 1, 0);
    }

    private static void shuttingByFalls() {
        PostHall hall = Halls.ofEveryKind();
        hall.counter(0, 0, 0, 1, 0);
        int[] shut = {0, 0, 1};
        for (int fell = 1; fell <= 9; fell++) {
            T.due("13: fall " + fell, hall.send(0, 0), CAST);
            dueCounter("fall " + fell, hall, 0, fell, fell, shut[(fell - 1) % 3]);
            if (fell % 3 == 0) {
                T.due("13: shut by its falls", hall.send(0, 0), LOST);
                T.due("13: a shut one does not fall", hall.of(0, 2), fell);
                hall.shut(0, false);
            }
        }
        T.due("13: a meeting that goes well", hall.send(1, 0), 0);
        dueCounter("nine falls do not shut again", hall, 0, 10, 9, 0);
    }

    private static void weigh() {
        PostHall hall = Halls.ofEveryKind();
        hall.counter(0, 0, 0, 0, 0);
        hall.counter(1, 0, 1, 0, 1);
        hall.counter(2, 5, 1, 5, 1);
        hall.job(0, 0, Integer.MAX_VALUE, NONE, 0);
        hall.job(1, 0, 40, NONE, 0);
        T.due("13: a slip", hall.send(0, 0), 0);
        T.due("13: K wraps", hall.of(0, 0), Integer.MIN_VALUE);
        T.due("13: a bundle of 2", hall.send(3, 0), 1);
        T.due("13: 40 and 2", hall.of(1, 0), 42);
        T.due("13: a bundle of none", hall.send(hall.bundle(0, 1, 0), 0), 1);
        T.due("13: and 0", hall.of(1, 0), 42);
        T.due("13: figures of 5", hall.send(hall.bundle(5, 1, 5), 0), 2);
        T.due("13: 5", hall.of(2, 0), 5);
    }

    private static void markSlips() {
        int[] wants = {0, 0, 0, 1, 2, 3};
        int[] slip = {0, 1, 2, 1, 2, 2};
        for (int i = 0; i < wants.length; i++) {
            for (int number : Halls.EDGES) {
                PostHall hall = Halls.ofEveryKind();
                hall.counter(6, slip[i], 0, wants[i], 0);
                hall.job(6, 1, number, NONE, 0);
                T.due("13: mark", hall.send(slip[i], 0), 6);
                int want = wants[i] == 3 ? 13 - number : slip[i] == 1 ? number * 2 : number;
                T.due("13: stamp of " + slip[i] + " taken for (" + wants[i] + ", 0), K " + number,
                    hall.number(slip[i], -1), want);
                T.due("13: K stays", hall.of(6, 0), number);
            }
        }
    }

    private static void markBundles() {
        PostHall hall = Halls.ofEveryKind();
        hall.counter(0, 4, 1, 4, 1);
        hall.counter(1, 5, 1, 5, 1);
        for (int number : Halls.EDGES) {
            hall.job(0, 1, number, NONE, 0);
            hall.job(1, 1, number, NONE, 0);
            T.due("13: mark bytes", hall.send(15, 0), 0);
            T.due("13: mark chars", hall.send(18, 0), 1);
            for (int i = 0; i < 2; i++) {
                T.due("13: byte " + i + " by " + number, hall.number(15, i), (byte) number);
                T.due("13: char " + i + " by " + number, hall.number(18, i), (char) number);
            }
        }
        T.due("13: mark figures of none", hall.send(hall.bundle(4, 1, 0), 0), 0);
        hall.counter(2, 0, 1, 0, 1);
        hall.job(2, 1, 1, NONE, 0);
        hall.place(3, 0, 1);
        hall.place(3, 1, 2);
        T.due("13: mark a bundle", hall.send(3, 0), 2);
        T.due("13: place 0 has none", hall.placed(3, 0), NONE);
        T.due("13: place 1 has what it had", hall.placed(3, 1), 2);
        T.due("13: mark a bundle of none", hall.send(hall.bundle(0, 1, 0), 0), INDEX);
        hall.counter(3, 4, 2, 4, 2);
        hall.job(3, 1, 9, NONE, 0);
        hall.place(16, 0, 15);
        T.due("13: mark a rack of bytes", hall.send(16, 0), 3);
        T.due("13: its place 0 has none", hall.placed(16, 0), NONE);
        T.due("13: mark a rack of none", hall.send(hall.bundle(4, 2, 0), 0), INDEX);
    }

    private static void lay() {
        PostHall hall = Halls.ofEveryKind();
        hall.counter(0, 0, 1, 0, 1);
        hall.job(0, 2, 1, 2, 0);
        T.due("13: lay", hall.send(3, 0), 0);
        T.due("13: it is laid", hall.placed(3, 1), 2);
        T.due("13: the counter has it still", hall.of(0, 4), 2);
        hall.job(0, 2, 1, NONE, 0);
        T.due("13: lay none", hall.send(3, 0), 0);
        T.due("13: none is laid", hall.placed(3, 1), NONE);
        hall.counter(1, 3, 1, 3, 1);
        hall.job(1, 2, 0, 2, 0);
        T.due("13: a parcel among the tracked", hall.send(Halls.bundleOf(3, 1), 0), 1);
        T.due("13: it is laid", hall.placed(Halls.bundleOf(3, 1), 0), 2);
        T.due("13: a parcel bundle taken for tracked", hall.send(Halls.bundleOf(2, 1), 1), 1);
        T.due("13: it is laid", hall.placed(Halls.bundleOf(2, 1), 0), 2);
        hall.counter(2, 5, 3, 5, 3);
        hall.job(2, 2, 1, Halls.bundleOf(5, 2), 0);
        T.due("13: racks of chars", hall.send(Halls.bundleOf(5, 3), 0), 2);
        T.due("13: it is laid", hall.placed(Halls.bundleOf(5, 3), 1), Halls.bundleOf(5, 2));
    }

    private static void layFailsInOrder() {
        int[] ownOf = {0, 1, 3, NONE};
        for (int own : ownOf) {
            for (int place : Halls.EDGES) {
                PostHall hall = Halls.ofEveryKind();
                int cards = Halls.bundleOf(1, 1);
                hall.counter(0, 0, 1, 0, 1);
                hall.job(0, 2, place, own, 0);
                boolean there = place == 0 || place == 1;
                int want = own == 3 ? CAST : !there ? INDEX : own == 0 ? STORE : 0;
                T.due("13: own " + own + " to place " + place + " of cards", hall.send(cards, 0), want);
                if (there) {
                    T.due("13: what is laid", hall.placed(cards, place), want == 0 ? own : NONE);
                }
            }
        }
        PostHall hall = Halls.ofEveryKind();
        hall.counter(0, 0, 1, 1, 1);
        hall.job(0, 2, 9, 3, 0);
        T.due("13: the message's cast is ahead of all", hall.send(3, 0), CAST);
        hall.counter(0, 1, 1, 1, 1);
        hall.job(0, 2, 0, 0, 0);
        T.due("13: own is taken for what is wanted, not asked", hall.send(6, 0), CAST);
    }

    private static void open() {
        PostHall hall = Halls.ofEveryKind();
        hall.counter(2, 0, 1, 0, 1);
        hall.counter(1, 0, 0, 0, 0);
        hall.counter(4, 0, 0, 0, 0);
        hall.place(3, 1, 2);
        hall.job(2, 3, 1, NONE, 0);
        T.due("13: open", hall.send(3, 0), 2);
        dueTold("open", hall, 2, 2, 0, 0, NONE);
        dueCounter("what is ahead of it stays out", hall, 1, 0, 0, 0);
        dueCounter("what is behind it meets", hall, 4, 1, 0, 0);
        hall.shut(4, true);
        T.due("13: lost from within is no failure", hall.send(3, 0), 2);
        dueTold("lost from within", hall, 1, 1, 1, 0, NONE);
        for (int place : Halls.EDGES) {
            hall.counter(2, 0, 1, 0, 1);
            hall.job(2, 3, place, NONE, 0);
            int want = place == 0 ? NULL : place == 1 ? 2 : INDEX;
            T.due("13: open place " + place, hall.send(3, 0), want);
        }
        hall.counter(7, 0, 1, 0, 1);
        hall.job(7, 3, 1, NONE, 0);
        T.due("13: behind the last is nobody", hall.send(3, 7), 7);
        dueTold("behind the last", hall, 1, 1, 1, 0, NONE);
        hall.counter(4, 0, 0, 1, 0);
        hall.counter(2, 0, 1, 0, 1);
        hall.job(2, 3, 1, NONE, 0);
        T.due("13: a failure within is the meeting's", hall.send(3, 0), CAST);
        dueTold("a failure within", hall, 2, 0, 0, 2, 4);
        dueCounter("within", hall, 4, 1, 1, 0);
        dueCounter("around", hall, 2, 1, 1, 0);
        hall.job(2, 3, 1, NONE, 1);
        T.due("13: a patient one holds it", hall.send(3, 0), 7);
        dueTold("held", hall, 3, 1, 1, 2, 4);
    }

    private static void spread() {
        PostHall hall = Halls.ofEveryKind();
        int bundle = hall.bundle(0, 1, 6);
        hall.place(bundle, 1, 1);
        hall.place(bundle, 2, 0);
        hall.place(bundle, 4, 1);
        hall.place(bundle, 5, 2);
        hall.counter(0, 0, 1, 0, 1);
        hall.job(0, 4, 99, NONE, 0);
        hall.counter(1, 1, 0, 1, 0);
        hall.counter(2, 0, 0, 0, 0);
        hall.job(2, 5, 0, NONE, 0);
        T.due("13: spread", hall.send(bundle, 0), 0);
        dueTold("places without a message are passed over", hall, 5, 5, 0, 0, NONE);
        T.due("13: cards", hall.of(1, 0), 2);
        T.due("13: in order, the parcel is last", hall.of(2, 4), 2);
        hall.shut(2, true);
        T.due("13: spread", hall.send(bundle, 0), 0);
        dueTold("two are lost", hall, 3, 3, 2, 0, NONE);
        T.due("13: spread of none", hall.send(hall.bundle(0, 1, 0), 0), 0);
        dueTold("none", hall, 1, 1, 0, 0, NONE);
        T.due("13: spread of places that have none", hall.send(3, 0), 0);
        dueTold("places that have none", hall, 1, 1, 0, 0, NONE);
        hall.counter(3, 0, 1, 0, 1);
        hall.job(3, 4, 0, NONE, 0);
        hall.shut(2, false);
        T.due("13: spread from behind", hall.send(bundle, 3), 3);
        dueTold("what is ahead of it stays out", hall, 1, 1, 4, 0, NONE);
    }

    private static void spreadEndsWithAFailure() {
        PostHall hall = Halls.ofEveryKind();
        int bundle = hall.bundle(0, 1, 4);
        hall.place(bundle, 0, 1);
        hall.place(bundle, 1, 0);
        hall.place(bundle, 2, 1);
        hall.counter(0, 0, 1, 0, 1);
        hall.job(0, 4, 0, NONE, 1);
        hall.counter(3, 0, 0, 1, 0);
        hall.job(3, 1, 50, NONE, 0);
        hall.counter(6, 0, 1, 0, 1);
        T.due("13: let by behind a failure", hall.send(bundle, 0), 6);
        dueTold("a failure within", hall, 4, 2, 0, 2, 3);
        T.due("13: what was done stays", hall.number(1, -1), 100);
        dueCounter("the card behind it is not sent", hall, 3, 2, 1, 0);
        hall.job(3, 1, 50, NONE, 1);
        hall.send(bundle, 0);
        dueTold("a patient one within", hall, 4, 3, 1, 1, 3);
        hall.send(bundle, 0);
        dueCounter("the third fall", hall, 3, 7, 3, 1);
        T.due("13: it was shut only behind the second of three", hall.told(2), 2);
        dueTold("the card behind the fall is passed by", hall, 3, 2, 2, 1, 3);
    }

    private static void keep() {
        PostHall hall = Halls.ofEveryKind();
        hall.counter(0, 0, 0, 0, 0);
        hall.job(0, 5, 3, NONE, 0);
        hall.counter(1, 4, 1, 4, 1);
        hall.job(1, 5, 3, 0, 0);
        hall.counter(2, 0, 2, 0, 2);
        hall.job(2, 5, 3, 0, 0);
        T.due("13: keep a slip", hall.send(2, 0), 0);
        T.due("15: own", hall.of(0, 4), 2);
        T.due("13: keep figures", hall.send(15, 0), 1);
        T.due("15: own", hall.of(1, 4), 15);
        T.due("13: keep a rack", hall.send(10, 0), 2);
        T.due("15: own", hall.of(2, 4), 10);
        T.due("15: K stays", hall.of(2, 0), 3);
        hall.counter(0, 0, 0, 1, 0);
        hall.job(0, 5, 0, NONE, 0);
        T.due("13: what it took wrongly", hall.send(2, 0), CAST);
        T.due("15: is not kept", hall.of(0, 4), NONE);
    }

    /** A rack 0 of n bundles of 8 cards each, and the counters 0 and 1 that spread them. */
    private static PostHall rackOfCards(int bundles) {
        PostHall hall = new PostHall();
        hall.bundle(1, 2, 8);
        hall.slip(1, 1);
        for (int i = 0; i < bundles; i++) {
            int bundle = hall.bundle(1, 1, 8);
            for (int j = 0; j < 8; j++) {
                hall.place(bundle, j, 1);
            }
            hall.place(0, i, bundle);
        }
        hall.counter(0, 1, 2, 1, 2);
        hall.job(0, 4, 0, NONE, 1);
        hall.counter(1, 1, 1, 1, 1);
        hall.job(1, 4, 0, NONE, 1);
        return hall;
    }

    private static void limitWithinAJob() {
        PostHall hall = rackOfCards(2);
        hall.counter(2, 1, 0, 1, 0);
        hall.job(2, 0, 0, NONE, 1);
        hall.counter(3, 1, 0, 1, 0);
        T.due("13: no patient one holds the limit", hall.send(0, 0), LIMIT);
        dueTold("the limit", hall, 16, 14, 0, 2, 1);
        dueCounter("the limit's is not counted", hall, 2, 13, 0, 0);
        dueCounter("nothing is sent behind it", hall, 3, 0, 0, 0);
        dueCounter("around it", hall, 1, 2, 1, 0);
        dueCounter("around both", hall, 0, 1, 1, 0);
        T.due("13: each send has its own meetings", hall.send(1, 0), 2);
        dueTold("anew", hall, 1, 1, 0, 0, NONE);
        hall.send(0, 0);
        T.due("13: the third", hall.send(0, 0), LIMIT);
        dueCounter("limits shut those around", hall, 0, 3, 3, 1);
        dueCounter("limits shut those around", hall, 1, 6, 3, 1);
        T.due("13: they are shut", hall.send(0, 0), LOST);
    }

    private static void limitIsAheadOfAllElse() {
        PostHall hall = new PostHall();
        hall.slip(1, 1);
        hall.bundle(1, 1, 8);
        for (int i = 0; i < 8; i++) {
            hall.place(1, i, 0);
        }
        hall.counter(0, 1, 1, 1, 1);
        hall.job(0, 4, 0, NONE, 1);
        for (int k = 1; k <= 7; k++) {
            hall.counter(k, 1, 0, 2, 0);
            hall.job(k, 0, 0, NONE, 1);
        }
        T.due("13: a cast at the limit is the limit", hall.send(1, 0), LIMIT);
        dueTold("the first fall stays the first", hall, 16, 0, 2, 16, 1);
        dueCounter("ahead of the limit's", hall, 1, 3, 3, 1);
        dueCounter("the limit's", hall, 2, 2, 2, 0);
        dueCounter("around", hall, 0, 1, 1, 0);
    }

    private static void sixteenAreNoLimit() {
        PostHall hall = rackOfCards(2);
        hall.counter(2, 1, 0, 1, 0);
        for (int i = 4; i < 8; i++) {
            hall.place(3, i, NONE);
        }
        int empty = hall.bundle(1, 1, 1);
        hall.place(0, 2, empty);
        T.due("13: sixteen meetings", hall.send(0, 0), 0);
        dueTold("sixteen", hall, 16, 16, 0, 0, NONE);
        hall.place(0, 3, empty);
        T.due("13: and one more", hall.send(0, 0), LIMIT);
        dueTold("seventeen", hall, 16, 15, 0, 1, 0);
        hall.counter(1, 1, 1, 2, 1);
        hall.job(0, 4, 0, NONE, 0);
        T.due("13: a cast ahead of the limit is a cast", hall.send(0, 0), CAST);
        dueTold("cast", hall, 2, 0, 0, 2, 1);
    }

    private static void limitWithNoMeetingAround() {
        PostHall hall = new PostHall();
        int card = hall.slip(1, 1);
        int slip = hall.slip(0, 2);
        int rack = hall.bundle(0, 2, 2);
        for (int i = 0; i < 2; i++) {
            int bundle = hall.bundle(0, 1, i == 0 ? 8 : 5);
            for (int j = 0; j < 8; j++) {
                hall.place(bundle, j, i == 1 && j == 4 ? slip : card);
            }
            hall.place(rack, i, bundle);
        }
        hall.counter(0, 0, 2, 0, 2);
        hall.job(0, 4, 0, NONE, 1);
        hall.counter(1, 0, 1, 0, 1);
        hall.job(1, 4, 0, NONE, 0);
        hall.counter(2, 0, 0, 1, 0);
        hall.counter(3, 0, 2, 0, 2);
        T.due("13: held by a patient one, then the limit", hall.send(rack, 0), LIMIT);
        dueTold("the first fall stays the first", hall, 16, 13, 0, 3, 2);
        dueCounter("the limit's", hall, 3, 0, 0, 0);
    }

    private static void told() {
        PostHall hall = Halls.ofEveryKind();
        dueTold("before a send", hall, 0, 0, 0, 0, NONE);
        for (int odd : Halls.EDGES) {
            if (odd < 0 || odd > 4) {
                T.due("14: what " + odd, hall.told(odd), BAD);
            }
        }
        T.due("13: a BAD send", hall.send(99, 0), BAD);
        dueTold("before a send that is not BAD", hall, 0, 0, 0, 0, NONE);
        hall.counter(3, 0, 0, 1, 0);
        hall.counter(5, 0, 0, 1, 0);
        hall.job(3, 0, 0, NONE, 1);
        T.due("13: two fall", hall.send(0, 0), CAST);
        dueTold("the first of two", hall, 2, 0, 0, 2, 3);
        T.due("13: a BAD send", hall.send(0, 8), BAD);
        dueTold("a BAD send is not the latest", hall, 2, 0, 0, 2, 3);
        T.due("13: one that goes well", hall.send(1, 0), 3);
        dueTold("of the latest alone", hall, 1, 1, 0, 0, NONE);
    }
}
