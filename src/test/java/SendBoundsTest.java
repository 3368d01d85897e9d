import java.util.function.ToIntFunction;

/** The boundary cases that the document names for sending, its jobs and failures, and for promises 13 and 14, sentence by sentence. */
public final class SendBoundsTest {
    private static final Due T = new Due("SendBoundsTest");
    private static final Refusals R = new Refusals(T);
    private static final int NONE = PostHall.NONE, BAD = PostHall.BAD, LOST = PostHall.LOST;
    private static final int CAST = -11, INDEX = -12, STORE = -13, NULL = -14, LIMIT = -15;
    private static final int WEIGH = 0, MARK = 1, LAY = 2, OPEN = 3, SPREAD = 4, KEEP = 5;
    private static final int MIN = Integer.MIN_VALUE, MAX = Integer.MAX_VALUE;

    public static void main(String[] args) {
        sendOfNoMessage();
        sendFromCounters0To7();
        lostAtBothEndsOfTheRow();
        fiveHundredAndTwelveCalls();
        fiveHundredAndTwelveCallsOfFalls();
        weighByPlaces();
        weighWraps();
        markOfTrackedWraps();
        markOfCardsWraps();
        markOfFiguresTakesLowestBits();
        markOfFiguresOfEveryLength();
        markWithoutAPlace();
        markOfPlace0Alone();
        layAtEveryPlace();
        layFailsInItsOrder();
        layOfNone();
        openAtEveryPlace();
        openAndSpreadBeginBehindTheCounter();
        openAndSpreadAtTheLastCounter();
        spreadOfEveryLength();
        spreadPassesNoneOver();
        keepOfTheFirstAndTheLast();
        shutAt3And6And9();
        shutIsOfFellAlone();
        patientOnesAreShutToo();
        shutWithinOneSend();
        sixteenMeetingsAndSeventeen();
        limitIsAheadOfEveryFailure();
        limitsMeetingIsNotCounted();
        limitsMeetingDoesNotShut();
        noPatientOneHoldsTheLimit();
        limitBeginsAnewWithEachSend();
        whatDoesNotMeetIsNoMeeting();
        toldBeforeASend();
        toldAtItsBounds();
        toldOfFailuresWithinOneAnother();
        toldOfTheLimit();
        T.end();
    }

    private static void refused(String call, ToIntFunction<PostHall> asked, int want) {
        R.refused(call, Refusals::furnished, asked, want);
    }

    private static void dueTold(String when, PostHall hall, int... want) {
        for (int what = 0; what < want.length; what++) {
            T.due("14: " + when + ": told(" + what + ")", hall.told(what), want[what]);
        }
    }

    private static void dueCounter(String when, PostHall hall, int k, int met, int fell, int shut) {
        T.due("13: " + when + ": met of " + k, hall.of(k, 1), met);
        T.due("13: " + when + ": fell of " + k, hall.of(k, 2), fell);
        T.due("13: " + when + ": shut of " + k, hall.of(k, 3), shut);
    }

    private static void set(PostHall hall, int k, int base, int depth, int job, int number, int own) {
        hall.counter(k, base, depth, base, depth);
        T.due("11: job " + job + " of (" + base + ", " + depth + ")", hall.job(k, job, number, own, 0), 1);
    }

    private static void sendOfNoMessage() {
        for (int m : new int[] {-2, -1, 8, 9, 59, 60, 61, MIN, MAX}) {
            refused("13: send(" + m + ", 0)", hall -> hall.send(m, 0), BAD);
            refused("13: send(" + m + ", 8)", hall -> hall.send(m, 8), BAD);
        }
        T.due("13: the first message", Refusals.furnished().send(0, 0), LOST);
        T.due("13: the last message", Refusals.furnished().send(7, 1), LOST);
    }

    private static void sendFromCounters0To7() {
        for (int k : new int[] {-2, -1, 8, 9, 16, MIN, MAX}) {
            refused("13: send(0, " + k + ")", hall -> hall.send(0, k), BAD);
            refused("13: send(4, " + k + ")", hall -> hall.send(4, k), BAD);
        }
        for (int k = 0; k <= 7; k++) {
            T.due("13: bytes from counter " + k, Refusals.furnished().send(4, k), 7);
            T.due("13: no counter is set", ofSlips(1).send(0, k), LOST);
        }
    }

    /** So many slips, and nothing else. */
    private static PostHall ofSlips(int slips) {
        PostHall hall = new PostHall();
        for (int i = 0; i < slips; i++) {
            hall.slip(i % 3, i);
        }
        return hall;
    }

    private static void lostAtBothEndsOfTheRow() {
        PostHall hall = ofSlips(3);
        hall.counter(0, 0, 0, 0, 0);
        T.due("13: from the first on", hall.send(0, 0), 0);
        T.due("13: from behind it on", hall.send(0, 1), LOST);
        dueTold("lost", hall, 0, 0, 1, 0, NONE);
        hall.counter(7, 1, 0, 1, 0);
        T.due("13: the last lets by what it does not ask", hall.send(0, 1), LOST);
        T.due("13: the last asks for cards", hall.send(1, 7), 7);
        hall.shut(7, true);
        T.due("13: the last is shut", hall.send(1, 7), LOST);
        hall.counter(7, 0, 0, 1, 0);
        hall.job(7, 0, 0, NONE, 1);
        T.due("13: the last is patient", hall.send(0, 7), LOST);
        dueTold("lost behind a fall", hall, 1, 0, 1, 1, 7);
    }

    private static void fiveHundredAndTwelveCalls() {
        PostHall hall = ofSlips(1);
        hall.bundle(0, 1, 8);
        for (int i = 0; i < 8; i++) {
            hall.place(1, i, 0);
        }
        hall.counter(0, 0, 1, 0, 1);
        hall.job(0, SPREAD, 0, NONE, 0);
        hall.counter(1, 0, 0, 0, 0);
        hall.job(1, WEIGH, MAX - 1000, NONE, 0);
        int calls = 14;
        int sends = 0;
        while (calls < 508) {
            T.due("512 calls: send " + sends, hall.send(1, 0), 0);
            calls++;
            sends++;
        }
        T.due("512 calls: the 509th", hall.of(1, 0), MAX - 1000 + 8 * sends);
        T.due("512 calls: the 510th", hall.of(1, 1), 8 * sends);
        T.due("512 calls: the 511th", hall.told(0), 9);
        T.due("512 calls: the 512th", hall.count(2), sends);
    }

    private static void fiveHundredAndTwelveCallsOfFalls() {
        PostHall hall = ofSlips(1);
        hall.counter(0, 0, 0, 1, 0);
        int calls = 2;
        int fell = 0;
        while (calls + 4 <= 510) {
            for (int i = 0; i < 3; i++) {
                T.due("512 calls: fall " + fell, hall.send(0, 0), CAST);
                fell++;
            }
            T.due("512 calls: shut by fall " + fell, hall.shut(0, false), 1);
            calls += 4;
        }
        T.due("512 calls: the last but one", hall.of(0, 2), fell);
        T.due("512 calls: the last", hall.send(0, 0), CAST);
    }

    private static void weighByPlaces() {
        int[][] kinds = {{0, 1}, {2, 3}, {3, 2}, {4, 1}, {5, 1}, {4, 2}, {5, 3}};
        for (int[] kind : kinds) {
            PostHall hall = new PostHall();
            set(hall, 2, kind[0], kind[1], WEIGH, 100, NONE);
            int weighed = 100;
            for (int n = 0; n <= 8; n++) {
                T.due("13: weigh " + n + " places", hall.send(hall.bundle(kind[0], kind[1], n), 0), 2);
                weighed += n;
                T.due("15: K by " + n + " places", hall.of(2, 0), weighed);
            }
        }
        PostHall hall = ofSlips(3);
        hall.counter(2, 0, 0, 0, 0);
        for (int m = 0; m < 3; m++) {
            hall.send(m, 0);
            T.due("15: K by a slip", hall.of(2, 0), m + 1);
        }
    }

    private static void weighWraps() {
        int[] before = {MAX, MAX - 1, MAX - 7, MAX - 8, -1, -8, MIN};
        int[] bySlip = {MIN, MAX, MAX - 6, MAX - 7, 0, -7, MIN + 1};
        int[] byEight = {MIN + 7, MIN + 6, MIN, MAX, 7, 0, MIN + 8};
        for (int i = 0; i < before.length; i++) {
            PostHall hall = ofSlips(1);
            hall.bundle(5, 1, 8);
            set(hall, 0, 0, 0, WEIGH, before[i], NONE);
            set(hall, 1, 5, 1, WEIGH, before[i], NONE);
            T.due("13: weigh a slip", hall.send(0, 0), 0);
            T.due("K wraps: " + before[i] + " and 1", hall.of(0, 0), bySlip[i]);
            T.due("13: weigh 8 chars", hall.send(1, 0), 1);
            T.due("K wraps: " + before[i] + " and 8", hall.of(1, 0), byEight[i]);
        }
    }

    private static void markOfTrackedWraps() {
        int[] stamp = {MIN, MAX, 0, MIN, MIN, MAX, 5, -1};
        int[] number = {1, -1, MIN, MIN, MAX, MIN, 5, MIN};
        int[] want = {MAX, MIN, MIN, 0, 1, -1, 0, MAX};
        for (int i = 0; i < stamp.length; i++) {
            PostHall hall = new PostHall();
            hall.slip(2, stamp[i]);
            set(hall, 7, 3, 0, MARK, number[i], NONE);
            T.due("13: mark a tracked one", hall.send(0, 7), 7);
            T.due("13: " + stamp[i] + " less by " + number[i], hall.number(0, -1), want[i]);
            T.due("15: K stays", hall.of(7, 0), number[i]);
        }
    }

    private static void markOfCardsWraps() {
        int[] number = {MAX, MIN, 1 << 30, (1 << 30) - 1, -(1 << 30), -(1 << 30) - 1, 0, -1};
        int[] twice = {-2, 0, MIN, MAX - 1, MIN, MAX - 1, 0, -2};
        for (int i = 0; i < number.length; i++) {
            for (int wants = 0; wants <= 1; wants++) {
                PostHall hall = ofSlips(3);
                set(hall, 0, wants, 0, MARK, number[i], NONE);
                T.due("13: mark a card", hall.send(1, 0), 0);
                T.due("13: twice " + number[i], hall.number(1, -1), twice[i]);
                T.due("15: K stays", hall.of(0, 0), number[i]);
            }
            PostHall hall = ofSlips(3);
            set(hall, 0, 0, 0, MARK, number[i], NONE);
            T.due("13: mark a slip", hall.send(0, 0), 0);
            T.due("13: once " + number[i], hall.number(0, -1), number[i]);
            T.due("13: mark a parcel", hall.send(2, 0), 0);
            T.due("13: once " + number[i], hall.number(2, -1), number[i]);
        }
    }

    private static void markOfFiguresTakesLowestBits() {
        int[] number = {0, 1, 127, 128, 255, 256, -1, -128, -129, 65535, 65536, -65536, MIN, MAX};
        int[] asByte = {0, 1, 127, -128, -1, 0, -1, -128, 127, -1, 0, 0, 0, -1};
        int[] asChar = {0, 1, 127, 128, 255, 256, 65535, 65408, 65407, 65535, 0, 0, 0, 65535};
        for (int i = 0; i < number.length; i++) {
            PostHall hall = new PostHall();
            hall.bundle(4, 1, 1);
            hall.bundle(5, 1, 1);
            set(hall, 0, 4, 1, MARK, number[i], NONE);
            set(hall, 1, 5, 1, MARK, number[i], NONE);
            hall.figure(0, 0, 77);
            hall.figure(1, 0, 77);
            T.due("13: mark bytes", hall.send(0, 0), 0);
            T.due("13: a byte by " + number[i], hall.number(0, 0), asByte[i]);
            T.due("13: mark chars", hall.send(1, 0), 1);
            T.due("13: a char by " + number[i], hall.number(1, 0), asChar[i]);
            T.due("15: K stays", hall.of(0, 0), number[i]);
        }
    }

    private static void markOfFiguresOfEveryLength() {
        for (int base = 4; base <= 5; base++) {
            for (int n = 0; n <= 8; n++) {
                PostHall hall = new PostHall();
                hall.bundle(base, 1, n);
                hall.bundle(base, 1, 8);
                set(hall, 0, base, 1, MARK, 33, NONE);
                T.due("13: mark figures of " + n, hall.send(0, 0), 0);
                for (int i = 0; i < 8; i++) {
                    T.due("13: number " + i + " of " + n, hall.number(0, i), i < n ? 33 : 0);
                    T.due("13: other figures stay", hall.number(1, i), 0);
                }
            }
        }
    }

    private static void markWithoutAPlace() {
        int[][] kinds = {{0, 1}, {1, 2}, {2, 3}, {3, 1}, {4, 2}, {4, 3}, {5, 2}, {5, 3}};
        for (int[] kind : kinds) {
            PostHall hall = new PostHall();
            hall.bundle(kind[0], kind[1], 0);
            hall.bundle(kind[0], kind[1], 1);
            set(hall, 4, kind[0], kind[1], MARK, 0, NONE);
            T.due("13: mark without a place", hall.send(0, 0), INDEX);
            dueTold("mark without a place", hall, 1, 0, 0, 1, 4);
            dueCounter("mark without a place", hall, 4, 1, 1, 0);
            T.due("13: mark with one place that has none", hall.send(1, 0), 4);
            T.due("5: it has none", hall.placed(1, 0), NONE);
        }
    }

    private static void markOfPlace0Alone() {
        for (int n = 1; n <= 8; n++) {
            PostHall hall = ofSlips(1);
            hall.bundle(0, 1, n);
            for (int i = 0; i < n; i++) {
                hall.place(1, i, 0);
            }
            set(hall, 0, 0, 1, MARK, n - 1, NONE);
            T.due("13: mark one of " + n, hall.send(1, 0), 0);
            for (int i = 0; i < n; i++) {
                T.due("13: place " + i + " of " + n, hall.placed(1, i), i == 0 ? NONE : 0);
            }
            T.due("13: the slip that was there stays as it is", hall.number(0, -1), 0);
        }
    }

    private static void layAtEveryPlace() {
        for (int n = 0; n <= 8; n++) {
            for (int number : new int[] {MIN, -2, -1, 0, 1, 2, 3, 4, 5, 6, 7, 8, 9, 256, 65536, MAX}) {
                PostHall hall = ofSlips(2);
                hall.bundle(0, 1, n);
                set(hall, 3, 0, 1, LAY, number, 1);
                boolean there = number >= 0 && number < n;
                T.due("13: lay at " + number + " of " + n, hall.send(2, 0), there ? 3 : INDEX);
                for (int i = 0; i < n; i++) {
                    T.due("5: place " + i, hall.placed(2, i), i == number ? 1 : NONE);
                }
                T.due("15: the own stays", hall.of(3, 4), 1);
                dueCounter("lay", hall, 3, 1, there ? 0 : 1, 0);
            }
        }
    }

    private static void layFailsInItsOrder() {
        for (int number : new int[] {-1, 0, 1, 2}) {
            PostHall hall = Refusals.furnished();
            boolean there = number == 0;
            hall.counter(0, 0, 1, 0, 1);
            hall.job(0, LAY, number, 7, 0);
            T.due("13: an own that is not (0, 0): CAST ahead of INDEX", hall.send(7, 0), CAST);
            hall.job(0, LAY, number, 0, 0);
            T.due("13: a slip among cards: INDEX ahead of STORE", hall.send(7, 0), there ? STORE : INDEX);
            hall.counter(0, 0, 1, 0, 1);
            hall.job(0, LAY, number, 2, 0);
            T.due("13: a parcel among cards", hall.send(7, 0), there ? STORE : INDEX);
            hall.job(0, LAY, number, 1, 0);
            T.due("5: nothing was laid", hall.placed(7, 0), NONE);
            T.due("13: a card among cards", hall.send(7, 0), there ? 0 : INDEX);
            T.due("5: laid", hall.placed(7, 0), there ? 1 : NONE);
        }
        PostHall hall = Refusals.furnished();
        hall.counter(0, 0, 1, 1, 1);
        hall.job(0, LAY, 5, 7, 0);
        T.due("13: the message itself is taken first", hall.send(3, 0), CAST);
        T.due("5: it stays", hall.placed(3, 0), 1);
    }

    private static void layOfNone() {
        for (int number : new int[] {-1, 0, 1, 2}) {
            PostHall hall = Refusals.furnished();
            hall.place(3, 1, 2);
            set(hall, 0, 0, 1, LAY, number, NONE);
            boolean there = number == 0 || number == 1;
            T.due("13: none is never taken wrongly", hall.send(3, 0), there ? 0 : INDEX);
            T.due("5: place 0", hall.placed(3, 0), number == 0 ? NONE : 1);
            T.due("5: place 1", hall.placed(3, 1), number == 1 ? NONE : 2);
        }
        PostHall hall = Refusals.furnished();
        set(hall, 0, 1, 1, LAY, 0, NONE);
        T.due("13: every bundle holds none", hall.send(7, 0), 0);
    }

    private static void openAtEveryPlace() {
        for (int n = 0; n <= 8; n++) {
            for (int number : new int[] {MIN, -2, -1, 0, 1, 2, 3, 4, 5, 6, 7, 8, 9, 256, 65536, MAX}) {
                PostHall hall = ofSlips(9);
                hall.bundle(0, 1, n);
                boolean there = number >= 0 && number < n;
                set(hall, 3, 0, 1, OPEN, number, NONE);
                set(hall, 4, 0, 0, KEEP, 0, NONE);
                T.due("13: open none at " + number + " of " + n, hall.send(9, 0), there ? NULL : INDEX);
                dueTold("open none", hall, 1, 0, 0, 1, 3);
                for (int i = 0; i < n; i++) {
                    hall.place(9, i, i + 1);
                }
                T.due("13: open at " + number + " of " + n, hall.send(9, 0), there ? 3 : INDEX);
                T.due("15: what was inside", hall.of(4, 4), there ? number + 1 : NONE);
                T.due("14: done", hall.told(1), there ? 2 : 0);
            }
        }
    }

    private static void openAndSpreadBeginBehindTheCounter() {
        for (int job = OPEN; job <= SPREAD; job++) {
            for (int k = 1; k <= 6; k++) {
                PostHall hall = ofSlips(1);
                hall.bundle(0, 1, 1);
                hall.place(1, 0, 0);
                hall.counter(k - 1, 0, 0, 0, 0);
                set(hall, k, 0, 1, job, 0, NONE);
                hall.counter(k + 1, 0, 0, 0, 0);
                T.due("13: job " + job + " of " + k, hall.send(1, 0), k);
                dueTold("job " + job + " of " + k, hall, 2, 2, 0, 0, NONE);
                dueCounter("the one ahead stays out", hall, k - 1, 0, 0, 0);
                dueCounter("the one behind meets", hall, k + 1, 1, 0, 0);
            }
        }
    }

    private static void openAndSpreadAtTheLastCounter() {
        for (int job = OPEN; job <= SPREAD; job++) {
            PostHall hall = Refusals.furnished();
            set(hall, 7, 0, 1, job, 0, NONE);
            hall.shut(0, true);
            T.due("13: nobody is behind the last", hall.send(3, 0), 7);
            dueTold("nobody is behind the last", hall, 1, 1, 1, 0, NONE);
            dueCounter("it is not sent from the first on", hall, 2, 1, 1, 0);
        }
    }

    private static void spreadOfEveryLength() {
        for (int n = 0; n <= 8; n++) {
            PostHall hall = ofSlips(9);
            hall.bundle(0, 1, n);
            for (int i = 0; i < n; i++) {
                hall.place(9, i, 8 - i);
            }
            set(hall, 0, 0, 1, SPREAD, MIN, NONE);
            set(hall, 1, 0, 0, KEEP, 0, NONE);
            T.due("13: spread " + n, hall.send(9, 0), 0);
            dueTold("spread " + n, hall, 1 + n, 1 + n, 0, 0, NONE);
            T.due("13: the last place is the last that is sent", hall.of(1, 4), n == 0 ? NONE : 9 - n);
            T.due("15: K stays", hall.of(0, 0), MIN);
        }
    }

    private static void spreadPassesNoneOver() {
        for (int held = 0; held < 256; held++) {
            PostHall hall = ofSlips(9);
            hall.bundle(0, 1, 8);
            for (int i = 0; i < 8; i++) {
                if ((held >> i & 1) == 1) {
                    hall.place(9, i, i + 1);
                }
            }
            int there = Integer.bitCount(held);
            set(hall, 0, 0, 1, SPREAD, 0, NONE);
            set(hall, 1, 0, 0, KEEP, 0, NONE);
            T.due("13: spread, held " + held, hall.send(9, 0), 0);
            dueTold("spread, held " + held, hall, 1 + there, 1 + there, 0, 0, NONE);
            T.due("13: the last of them", hall.of(1, 4), held == 0 ? NONE : 32 - Integer.numberOfLeadingZeros(held));
        }
    }

    private static void keepOfTheFirstAndTheLast() {
        PostHall hall = Refusals.full();
        set(hall, 0, 0, 0, KEEP, 0, NONE);
        set(hall, 1, 0, 1, KEEP, 0, 59);
        T.due("13: keep message 59", hall.send(59, 0), 0);
        T.due("15: it is the own", hall.of(0, 4), 59);
        T.due("13: keep message 0", hall.send(0, 0), 1);
        T.due("15: it is the own", hall.of(1, 4), 0);
    }

    private static void shutAt3And6And9() {
        PostHall hall = ofSlips(1);
        hall.counter(5, 0, 0, 1, 0);
        for (int fell = 1; fell <= 30; fell++) {
            T.due("13: fall " + fell, hall.send(0, 0), CAST);
            dueCounter("fall " + fell, hall, 5, fell, fell, fell % 3 == 0 ? 1 : 0);
            if (fell % 3 == 0) {
                T.due("13: it is shut", hall.send(0, 0), LOST);
                dueCounter("a shut one does not meet", hall, 5, fell, fell, 1);
                T.due("12: it was shut", hall.shut(5, false), 1);
            }
        }
    }

    private static void shutIsOfFellAlone() {
        PostHall hall = ofSlips(2);
        hall.counter(0, 0, 0, 1, 0);
        for (int i = 0; i < 5; i++) {
            T.due("13: a card is well taken", hall.send(1, 0), 0);
        }
        dueCounter("five meetings, no fall", hall, 0, 5, 0, 0);
        hall.send(0, 0);
        hall.send(0, 0);
        hall.shut(0, true);
        hall.shut(0, false);
        dueCounter("shut and opened by hand", hall, 0, 7, 2, 0);
        hall.send(1, 0);
        dueCounter("well behind two falls", hall, 0, 8, 2, 0);
        hall.send(0, 0);
        dueCounter("the third fall", hall, 0, 9, 3, 1);
        hall.shut(0, false);
        hall.send(1, 0);
        dueCounter("well behind three falls", hall, 0, 10, 3, 0);
    }

    private static void patientOnesAreShutToo() {
        PostHall hall = ofSlips(1);
        hall.counter(0, 0, 0, 1, 0);
        hall.job(0, WEIGH, 0, NONE, 1);
        hall.counter(1, 0, 0, 0, 0);
        for (int fell = 1; fell <= 3; fell++) {
            T.due("13: let by", hall.send(0, 0), 1);
            dueTold("let by", hall, 2, 1, 0, 1, 0);
            dueCounter("let by", hall, 0, fell, fell, fell == 3 ? 1 : 0);
        }
        T.due("13: past the shut one", hall.send(0, 0), 1);
        dueTold("past the shut one", hall, 1, 1, 0, 0, NONE);
    }

    private static void shutWithinOneSend() {
        PostHall hall = ofSlips(1);
        hall.bundle(0, 1, 8);
        for (int i = 0; i < 8; i++) {
            hall.place(1, i, 0);
        }
        set(hall, 0, 0, 1, SPREAD, 0, NONE);
        hall.counter(1, 0, 0, 1, 0);
        hall.job(1, WEIGH, 0, NONE, 1);
        T.due("13: shut behind the third of eight", hall.send(1, 0), 0);
        dueTold("shut behind the third of eight", hall, 4, 1, 8, 3, 1);
        dueCounter("shut behind the third of eight", hall, 1, 3, 3, 1);
    }

    /**
     * Slip 0 (CARD); bundle 1 of 8 places, each with the card; rack 2 of 8 places. Counters 0 and 1 spread
     * the rack and the bundles in it; a send of the rack has 1 meeting, and 1 + cards more for each bundle.
     */
    private static PostHall rack(int cardsInLast) {
        PostHall hall = new PostHall();
        hall.slip(1, 1);
        hall.bundle(1, 1, 8);
        hall.bundle(1, 2, 8);
        hall.bundle(1, 1, 8);
        for (int i = 0; i < 8; i++) {
            hall.place(1, i, 0);
            hall.place(3, i, i < cardsInLast ? 0 : NONE);
        }
        hall.place(2, 3, 1);
        hall.place(2, 7, 3);
        set(hall, 0, 1, 2, SPREAD, 0, NONE);
        set(hall, 1, 1, 1, SPREAD, 0, NONE);
        set(hall, 2, 1, 0, WEIGH, 0, NONE);
        return hall;
    }

    private static void sixteenMeetingsAndSeventeen() {
        for (int cards = 0; cards <= 8; cards++) {
            PostHall hall = rack(cards);
            int meetings = 11 + cards;
            boolean limit = meetings > 16;
            T.due("13: " + meetings + " meetings", hall.send(2, 0), limit ? LIMIT : 0);
            if (limit) {
                dueTold("limit", hall, 16, 14, 0, 2, 1);
                dueCounter("limit", hall, 2, 13, 0, 0);
            } else {
                dueTold("no limit", hall, meetings, meetings, 0, 0, NONE);
                dueCounter("no limit", hall, 2, 8 + cards, 0, 0);
            }
            T.due("15: what was done stays", hall.of(2, 0), Math.min(13, 8 + cards));
        }
    }

    /**
     * A rack 2 of slips' bundles: 8 cards, then 5 cards and the parcel 4, with which counter 3, if it asks
     * for parcels, has the 17th meeting.
     */
    private static PostHall parcelIsThe17th() {
        PostHall hall = new PostHall();
        hall.slip(1, 1);
        hall.bundle(0, 1, 8);
        hall.bundle(0, 2, 2);
        hall.bundle(0, 1, 8);
        hall.slip(2, 5);
        for (int i = 0; i < 8; i++) {
            hall.place(1, i, 0);
            hall.place(3, i, i < 5 ? 0 : i == 5 ? 4 : NONE);
        }
        hall.place(2, 0, 1);
        hall.place(2, 1, 3);
        set(hall, 0, 0, 2, SPREAD, 0, NONE);
        set(hall, 1, 0, 1, SPREAD, 0, NONE);
        set(hall, 2, 1, 0, WEIGH, 0, NONE);
        return hall;
    }

    /**
     * A rack 2: a bundle of 8 cards, one of 5, then the empty bundle 3 of parcels, with which counter 3, if it
     * asks for such, has the 17th meeting.
     */
    private static PostHall bundleIsThe17th() {
        PostHall hall = new PostHall();
        hall.slip(1, 1);
        hall.slip(2, 5);
        hall.bundle(0, 2, 3);
        hall.bundle(2, 1, 2);
        hall.bundle(1, 1, 8);
        hall.bundle(1, 1, 5);
        for (int i = 0; i < 8; i++) {
            hall.place(4, i, 0);
            hall.place(5, i, 0);
        }
        hall.place(2, 0, 4);
        hall.place(2, 1, 5);
        hall.place(2, 2, 3);
        set(hall, 0, 0, 2, SPREAD, 0, NONE);
        set(hall, 1, 1, 1, SPREAD, 0, NONE);
        set(hall, 2, 1, 0, WEIGH, 0, NONE);
        return hall;
    }

    private static void limitIsAheadOfEveryFailure() {
        int[][] ways = {
            // WANTS' base, JOB, K, OWN, and what the meeting comes to where it is not the 17th
            {1, WEIGH, 0, NONE, CAST}, {2, LAY, 0, 0, CAST}, {2, LAY, 2, 1, INDEX}, {0, LAY, 0, 0, STORE},
            {2, OPEN, 0, NONE, NULL}, {2, OPEN, -1, NONE, INDEX}, {2, WEIGH, 0, NONE, 3}, {2, LAY, 0, 1, 3}
        };
        for (int[] way : ways) {
            PostHall hall = bundleIsThe17th();
            hall.counter(3, 2, 1, way[0], 1);
            hall.job(3, way[1], way[2], way[3], 0);
            T.due("13: limit is ahead of all else", hall.send(2, 0), LIMIT);
            dueTold("limit is ahead of all else", hall, 16, 15, 0, 1, 0);
            dueCounter("limit is ahead of all else", hall, 3, 0, 0, 0);
            T.due("15: K stays", hall.of(3, 0), way[2]);
            T.due("5: nothing is laid", hall.placed(3, 0), NONE);
            T.due("13: without the limit", hall.send(3, 0), way[4]);
        }
    }

    private static void limitsMeetingIsNotCounted() {
        PostHall hall = parcelIsThe17th();
        set(hall, 3, 2, 0, WEIGH, 0, NONE);
        T.due("13: the 17th", hall.send(2, 0), LIMIT);
        dueTold("sixteen are told", hall, 16, 14, 0, 2, 1);
        dueCounter("the 17th is not counted", hall, 3, 0, 0, 0);
        T.due("13: nothing is weighed", hall.of(3, 0), 0);
        dueCounter("those before are", hall, 2, 13, 0, 0);
        dueCounter("around it", hall, 1, 2, 1, 0);
        dueCounter("around both", hall, 0, 1, 1, 0);
        T.due("16: it is a send", hall.count(2), 1);
    }

    private static void limitsMeetingDoesNotShut() {
        PostHall hall = parcelIsThe17th();
        hall.counter(3, 2, 0, 1, 0);
        hall.send(4, 0);
        hall.send(4, 0);
        dueCounter("two falls", hall, 3, 2, 2, 0);
        T.due("13: the 17th is at it", hall.send(2, 0), LIMIT);
        dueCounter("no third fall", hall, 3, 2, 2, 0);
        hall.send(2, 0);
        dueCounter("around: two falls", hall, 0, 2, 2, 0);
        T.due("13: again", hall.send(2, 0), LIMIT);
        dueCounter("around: the third fall shuts", hall, 0, 3, 3, 1);
        dueCounter("around: the third fall shuts", hall, 1, 6, 3, 1);
        T.due("13: then nobody asks for the rack", hall.send(2, 0), LOST);
    }

    private static void noPatientOneHoldsTheLimit() {
        for (int patient = 0; patient < 16; patient++) {
            PostHall hall = parcelIsThe17th();
            hall.counter(3, 2, 0, 2, 0);
            hall.job(0, SPREAD, 0, NONE, patient & 1);
            hall.job(1, SPREAD, 0, NONE, patient >> 1 & 1);
            hall.job(2, WEIGH, 0, NONE, patient >> 2 & 1);
            hall.job(3, WEIGH, 0, NONE, patient >> 3 & 1);
            for (int k = 4; k <= 6; k++) {
                hall.counter(k, 0, k - 4, 0, k - 4);
            }
            T.due("13: no patient one holds it, " + patient, hall.send(2, 0), LIMIT);
            dueTold("no patient one holds it", hall, 16, 14, 0, 2, 1);
            for (int k = 4; k <= 6; k++) {
                dueCounter("nothing is let by", hall, k, 0, 0, 0);
            }
        }
    }

    private static void limitBeginsAnewWithEachSend() {
        PostHall hall = rack(5);
        for (int i = 1; i <= 5; i++) {
            T.due("13: sixteen meetings, send " + i, hall.send(2, 0), 0);
            dueTold("sixteen, send " + i, hall, 16, 16, 0, 0, NONE);
            T.due("15: met by all sends", hall.of(2, 1), 13 * i);
        }
        hall = rack(6);
        T.due("13: seventeen", hall.send(2, 0), LIMIT);
        T.due("13: a bundle of six behind it", hall.send(3, 0), 1);
        dueTold("a bundle of six", hall, 7, 7, 0, 0, NONE);
    }

    private static void whatDoesNotMeetIsNoMeeting() {
        PostHall hall = rack(5);
        hall.counter(3, 1, 0, 1, 0);
        hall.shut(2, true);
        T.due("13: a shut one has no meetings", hall.send(2, 0), 0);
        dueTold("a shut one has no meetings", hall, 16, 16, 0, 0, NONE);
        hall.counter(2, 0, 1, 0, 1);
        T.due("13: nor has one that asks for something else", hall.send(2, 0), 0);
        dueTold("nor has one that asks for something else", hall, 16, 16, 0, 0, NONE);
        hall.shut(3, true);
        T.due("13: nor has what is lost", hall.send(2, 0), 0);
        dueTold("nor has what is lost", hall, 3, 3, 13, 0, NONE);
    }

    private static void toldBeforeASend() {
        PostHall hall = new PostHall();
        dueTold("of a new object", hall, 0, 0, 0, 0, NONE);
        hall.send(0, 0);
        dueTold("behind a BAD send", hall, 0, 0, 0, 0, NONE);
        hall.slip(0, 1);
        hall.send(0, 8);
        hall.send(0, -1);
        dueTold("behind BAD sends", hall, 0, 0, 0, 0, NONE);
        hall.counter(0, 0, 0, 1, 0);
        dueTold("before the first send", hall, 0, 0, 0, 0, NONE);
    }

    private static void toldAtItsBounds() {
        PostHall hall = Refusals.furnished();
        dueTold("of the latest", hall, 2, 1, 1, 1, 2);
        for (int what : new int[] {-2, -1, 5, 6, MIN, MAX}) {
            refused("14: told(" + what + ")", at -> at.told(what), BAD);
            T.due("14: told(" + what + ") of a new object", new PostHall().told(what), BAD);
        }
        T.due("13: lost", hall.send(5, 0), LOST);
        dueTold("of the latest alone", hall, 0, 0, 1, 0, NONE);
    }

    private static void toldOfFailuresWithinOneAnother() {
        PostHall hall = Refusals.furnished();
        hall.counter(0, 0, 1, 0, 1);
        hall.job(0, OPEN, 0, NONE, 1);
        hall.counter(2, 0, 0, 2, 0);
        hall.counter(7, 0, 1, 1, 1);
        T.due("13: within, around, then behind", hall.send(3, 0), CAST);
        dueTold("the innermost is the first", hall, 3, 0, 0, 3, 2);
        hall.counter(2, 0, 0, 0, 0);
        T.due("13: now all is well within", hall.send(3, 0), 0);
        dueTold("none", hall, 2, 2, 0, 0, NONE);
        hall.place(3, 0, NONE);
        T.due("13: nothing to open, then behind", hall.send(3, 0), CAST);
        dueTold("counter 0 is the first", hall, 2, 0, 0, 2, 0);
    }

    private static void toldOfTheLimit() {
        PostHall hall = rack(6);
        hall.counter(2, 1, 0, 2, 0);
        hall.job(2, WEIGH, 0, NONE, 1);
        set(hall, 3, 1, 0, WEIGH, 0, NONE);
        T.due("13: falls ahead of the limit", hall.send(2, 0), LIMIT);
        dueTold("the first fall is told, not the limit's", hall, 16, 11, 0, 5, 2);
        dueCounter("shut by its falls", hall, 2, 3, 3, 1);
    }
}
