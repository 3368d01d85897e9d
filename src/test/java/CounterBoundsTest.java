import java.util.function.Supplier;
import java.util.function.ToIntFunction;

/** The boundary cases that the document names for counters and for promises 10, 11, 12, 15 and 16, sentence by sentence. */
public final class CounterBoundsTest {
    private static final Due T = new Due("CounterBoundsTest");
    private static final Refusals R = new Refusals(T);
    private static final int NONE = PostHall.NONE, BAD = PostHall.BAD, LOST = PostHall.LOST;
    private static final int MIN = Integer.MIN_VALUE, MAX = Integer.MAX_VALUE;

    /** Of Refusals.furnished(): counters that are not set, and numbers that no counter has. */
    private static final int[] NOT_SET = {-2, -1, 1, 3, 6, 8, 9, MIN, MAX};

    public static void main(String[] args) {
        countersAre0To7();
        asksAndWantsAtTheirBounds();
        refusedSettingChangesNothing();
        setAnewFromEveryState();
        jobOfNoCounter();
        jobsAre0To5();
        jobsOfBundlesAlone();
        numbersAreInts();
        ownIsAMessageOrNone();
        patientIs0Or1();
        jobLeavesTheRestAlone();
        shutOfNoCounter();
        shutTellsWhatWas();
        ofAtItsBounds();
        ofNoCounter();
        countAtItsBounds();
        countersSet();
        sendsCounted();
        T.end();
    }

    private static void refused(String call, ToIntFunction<PostHall> asked, int want) {
        R.refused(call, Refusals::furnished, asked, want);
    }

    private static void dueOf(String when, PostHall hall, int k, int... want) {
        for (int what = 0; what < want.length; what++) {
            T.due(when + ": of(" + k + ", " + what + ")", hall.of(k, what), want[what]);
        }
    }

    private static void countersAre0To7() {
        for (int k = 0; k <= 7; k++) {
            PostHall hall = new PostHall();
            hall.slip(0, 1);
            T.due("10: counter " + k, hall.counter(k, 0, 0, 0, 0), 1);
            dueOf("10: new", hall, k, 0, 0, 0, 0, NONE, 0, 0);
            T.due("16: it alone is set", hall.count(1), 1);
            T.due("13: it is at its place", hall.send(0, k), k);
            T.due("13: and not behind it", k < 7 ? hall.send(0, k + 1) : LOST, LOST);
        }
        for (int k : new int[] {-2, -1, 8, 9, 59, 60, MIN, MAX}) {
            refused("10: counter(" + k + ", ..)", hall -> hall.counter(k, 0, 0, 0, 0), BAD);
        }
    }

    private static void asksAndWantsAtTheirBounds() {
        for (int b = -2; b <= 7; b++) {
            for (int d = -2; d <= 5; d++) {
                boolean kind = b >= 0 && b <= 3 && d >= 0 && d <= 3 || b >= 4 && b <= 5 && d >= 1 && d <= 3;
                int want = kind ? 1 : BAD;
                PostHall hall = new PostHall();
                T.due("10: asks (" + b + ", " + d + ")", hall.counter(0, b, d, 0, 0), want);
                T.due("16: set or not", hall.count(1), kind ? 1 : 0);
                T.due("10: wants (" + b + ", " + d + ")", hall.counter(7, 0, 0, b, d), want);
                T.due("16: set or not", hall.count(1), kind ? 2 : 0);
                T.due("10: both (" + b + ", " + d + ")", hall.counter(3, b, d, b, d), want);
            }
        }
    }

    private static void refusedSettingChangesNothing() {
        int[][] odd = {
            {-1, 0}, {-1, 1}, {6, 0}, {6, 1}, {0, -1}, {0, 4}, {3, -1}, {3, 4}, {4, 0}, {5, 0}, {4, -1}, {4, 4}, {5, 4},
            {MIN, 0}, {MAX, 1}, {0, MIN}, {0, MAX}
        };
        for (int[] kind : odd) {
            int b = kind[0];
            int d = kind[1];
            for (int k : new int[] {0, 1, 2, 7}) {
                refused("10: asks (" + b + ", " + d + ") at " + k, hall -> hall.counter(k, b, d, 5, 3), BAD);
                refused("10: wants (" + b + ", " + d + ") at " + k, hall -> hall.counter(k, 5, 3, b, d), BAD);
            }
        }
    }

    private static void setAnewFromEveryState() {
        PostHall hall = Refusals.furnished();
        hall.shut(2, false);
        hall.send(0, 0);
        hall.send(0, 0);
        dueOf("10: a used one", hall, 2, 5, 3, 3, 1, 0, 1, 1);
        T.due("10: anew", hall.counter(2, 0, 0, 2, 0), 1);
        dueOf("10: anew", hall, 2, 0, 0, 0, 0, NONE, 0, 0);
        T.due("16: as many as before", hall.count(1), 3);
        for (int fall = 1; fall <= 3; fall++) {
            T.due("10: its falls begin anew", hall.send(0, 0), -11);
            dueOf("10: its falls begin anew", hall, 2, 0, fall, fall, fall == 3 ? 1 : 0);
        }
    }

    private static void jobOfNoCounter() {
        for (int k : NOT_SET) {
            refused("11: job(" + k + ", ..)", hall -> hall.job(k, 0, 3, 1, 1), BAD);
            refused("11: job(" + k + ", 5, ..)", hall -> hall.job(k, 5, 0, NONE, 0), BAD);
        }
    }

    private static void jobsAre0To5() {
        for (int job = 0; job <= 5; job++) {
            PostHall hall = Refusals.furnished();
            T.due("11: job " + job, hall.job(0, job, 6, 1, 0), 1);
            T.due("15: the job", hall.of(0, 5), job);
        }
        for (int job : new int[] {-2, -1, 6, 7, MIN, MAX}) {
            for (int k : new int[] {0, 2, 7}) {
                refused("11: job " + job + " of " + k, hall -> hall.job(k, job, 6, 1, 0), BAD);
            }
        }
    }

    private static void jobsOfBundlesAlone() {
        for (int b = 0; b <= 5; b++) {
            for (int d = b < 4 ? 0 : 1; d <= 3; d++) {
                int wantsBase = b;
                int wantsDepth = d;
                Supplier<PostHall> made = () -> {
                    PostHall hall = Refusals.furnished();
                    hall.counter(1, 0, 1, wantsBase, wantsDepth);
                    return hall;
                };
                boolean alone = d >= 2 || d == 1 && b <= 3;
                for (int job = 0; job <= 5; job++) {
                    int of = job;
                    String call = "11: job " + job + " of wants (" + b + ", " + d + ")";
                    if (alone || job < 2 || job > 4) {
                        T.due(call, made.get().job(1, job, 6, 1, 1), 1);
                    } else {
                        R.refused(call, made, hall -> hall.job(1, of, 6, 1, 1), BAD);
                    }
                }
            }
        }
    }

    private static void numbersAreInts() {
        PostHall hall = Refusals.furnished();
        for (int number : new int[] {MIN, MIN + 1, -129, -1, 0, 1, 8, 65536, MAX - 1, MAX}) {
            T.due("11: K " + number, hall.job(2, 1, number, NONE, 0), 1);
            T.due("15: K", hall.of(2, 0), number);
        }
    }

    private static void ownIsAMessageOrNone() {
        for (int own = NONE; own <= 7; own++) {
            PostHall hall = Refusals.furnished();
            T.due("11: own " + own, hall.job(7, 0, 0, own, 0), 1);
            T.due("15: own", hall.of(7, 4), own);
        }
        for (int own : new int[] {-3, -2, 8, 9, 59, 60, 61, MIN, MAX}) {
            for (int job : new int[] {0, 2, 5}) {
                refused("11: own " + own, hall -> hall.job(0, job, 6, own, 0), BAD);
            }
        }
    }

    private static void patientIs0Or1() {
        for (int patient = 0; patient <= 1; patient++) {
            PostHall hall = Refusals.furnished();
            T.due("11: patient " + patient, hall.job(0, 0, 0, NONE, patient), 1);
            T.due("15: patient", hall.of(0, 6), patient);
        }
        for (int patient : new int[] {-2, -1, 2, 3, MIN, MAX}) {
            refused("11: patient " + patient, hall -> hall.job(0, 0, 6, NONE, patient), BAD);
            refused("11: patient " + patient, hall -> hall.job(7, 5, 6, 1, patient), BAD);
        }
    }

    private static void jobLeavesTheRestAlone() {
        PostHall hall = Refusals.furnished();
        hall.send(0, 0);
        hall.send(0, 0);
        dueOf("11: shut by its falls", hall, 2, 5, 3, 3, 1, 0, 1, 1);
        T.due("11: a job for a shut one", hall.job(2, 5, 8, 1, 0), 1);
        dueOf("11: met, fell, shut stay", hall, 2, 8, 3, 3, 1, 1, 5, 0);
        T.due("13: it is still shut", hall.send(0, 0), LOST);
    }

    private static void shutOfNoCounter() {
        for (int k : NOT_SET) {
            refused("12: shut(" + k + ", true)", hall -> hall.shut(k, true), BAD);
            refused("12: shut(" + k + ", false)", hall -> hall.shut(k, false), BAD);
        }
    }

    private static void shutTellsWhatWas() {
        for (int k : new int[] {0, 7}) {
            PostHall hall = Refusals.furnished();
            T.due("12: open, stays open", hall.shut(k, false), 0);
            T.due("12: open, becomes shut", hall.shut(k, true), 0);
            T.due("15: shut", hall.of(k, 3), 1);
            T.due("12: shut, stays shut", hall.shut(k, true), 1);
            T.due("12: shut, becomes open", hall.shut(k, false), 1);
            T.due("15: open", hall.of(k, 3), 0);
        }
        PostHall hall = Refusals.furnished();
        hall.send(0, 0);
        hall.send(0, 0);
        T.due("12: shut by its third fall", hall.shut(2, false), 1);
        dueOf("12: met and fell stay", hall, 2, 5, 3, 3, 0);
    }

    private static void ofAtItsBounds() {
        PostHall hall = Refusals.furnished();
        dueOf("15: spreads", hall, 0, 77, 1, 0, 0, 2, 4, 1);
        dueOf("15: marks", hall, 2, 5, 1, 1, 0, 0, 1, 1);
        dueOf("15: weighs", hall, 7, -9, 0, 0, 0, NONE, 0, 0);
        for (int what : new int[] {-2, -1, 7, 8, MIN, MAX}) {
            refused("15: of(0, " + what + ")", at -> at.of(0, what), 0);
            refused("15: of(2, " + what + ")", at -> at.of(2, what), 0);
        }
    }

    private static void ofNoCounter() {
        for (int k : NOT_SET) {
            for (int what = 0; what <= 6; what++) {
                int asked = what;
                refused("15: of(" + k + ", " + what + ")", hall -> hall.of(k, asked), 0);
            }
        }
    }

    private static void countAtItsBounds() {
        PostHall hall = Refusals.furnished();
        T.due("16: messages", hall.count(0), 8);
        T.due("16: counters", hall.count(1), 3);
        T.due("16: sends", hall.count(2), 1);
        for (int what : new int[] {-2, -1, 3, 4, MIN, MAX}) {
            refused("16: count(" + what + ")", at -> at.count(what), BAD);
        }
    }

    private static void countersSet() {
        PostHall hall = new PostHall();
        for (int k = 7; k >= 0; k--) {
            T.due("16: counters so far", hall.count(1), 7 - k);
            hall.counter(k, 0, 0, 0, 0);
            hall.counter(k, 1, 0, 1, 0);
            hall.shut(k, true);
        }
        T.due("16: all of them", hall.count(1), 8);
        T.due("10: no ninth", hall.counter(8, 0, 0, 0, 0), BAD);
        T.due("16: all of them", hall.count(1), 8);
    }

    private static void sendsCounted() {
        PostHall hall = new PostHall();
        hall.slip(0, 1);
        hall.counter(3, 0, 0, 1, 0);
        int[][] sends = {{0, -1, BAD}, {0, 8, BAD}, {1, 0, BAD}, {-1, 0, BAD}, {0, 7, LOST}, {0, 0, -11}, {0, 3, -11}};
        int counted = 0;
        for (int[] send : sends) {
            T.due("13: send(" + send[0] + ", " + send[1] + ")", hall.send(send[0], send[1]), send[2]);
            counted += send[2] == BAD ? 0 : 1;
            T.due("16: sends so far", hall.count(2), counted);
        }
    }
}
