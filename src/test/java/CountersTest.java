/** Promises 10, 11, 12, 15 and 16: counter, job, shut, of, count. */
public final class CountersTest {
    private static final Due T = new Due("CountersTest");
    private static final int NONE = PostHall.NONE, BAD = PostHall.BAD;

    public static void main(String[] args) {
        setting();
        settingAnew();
        kindsOfAsksAndWants();
        jobs();
        jobsOfWants();
        shutting();
        of();
        counting();
        refusalsChangeNothing();
        T.end();
    }

    private static void dueOf(String when, PostHall hall, int k, int... want) {
        for (int what = 0; what < want.length; what++) {
            T.due(when + ": of(" + k + ", " + what + ")", hall.of(k, what), want[what]);
        }
    }

    private static void setting() {
        PostHall hall = new PostHall();
        for (int k : Halls.EDGES) {
            boolean known = k >= 0 && k <= 7;
            T.due("10: counter(" + k + ", 0, 0, 0, 0)", hall.counter(k, 0, 0, 0, 0), known ? 1 : BAD);
            if (known) {
                dueOf("10: new", hall, k, 0, 0, 0, 0, NONE, 0, 0);
            }
        }
        T.due("16: all are set", hall.count(1), 8);
    }

    private static void settingAnew() {
        PostHall hall = new PostHall();
        hall.slip(0, 1);
        hall.counter(3, 0, 0, 0, 1);
        hall.job(3, 1, 77, 0, 1);
        hall.send(0, 0);
        hall.send(0, 0);
        hall.send(0, 0);
        dueOf("10: used", hall, 3, 77, 3, 3, 1, 0, 1, 1);
        T.due("10: anew", hall.counter(3, 0, 0, 0, 0), 1);
        dueOf("10: anew", hall, 3, 0, 0, 0, 0, NONE, 0, 0);
        T.due("16: set twice is one counter", hall.count(1), 1);
        T.due("10: it is there for its new kinds", hall.send(0, 0), 3);
        hall.job(3, 5, 1, NONE, 0);
        T.due("10: refused", hall.counter(3, 0, 0, 4, 0), BAD);
        dueOf("10: refused", hall, 3, 1, 1, 0, 0, NONE, 5, 0);
    }

    private static void kindsOfAsksAndWants() {
        for (int b : Halls.EDGES) {
            PostHall hall = new PostHall();
            for (int d : Halls.EDGES) {
                boolean kind = b >= 0 && b <= 5 && d >= (b < 4 ? 0 : 1) && d <= 3;
                T.due("10: asks (" + b + ", " + d + ")", hall.counter(0, b, d, 0, 0), kind ? 1 : BAD);
                T.due("10: wants (" + b + ", " + d + ")", hall.counter(1, 0, 0, b, d), kind ? 1 : BAD);
            }
        }
    }

    private static void jobs() {
        PostHall hall = new PostHall();
        hall.slip(0, 1);
        hall.counter(2, 0, 1, 0, 1);
        T.due("11: job", hall.job(2, 4, Integer.MIN_VALUE, 0, 1), 1);
        dueOf("11", hall, 2, Integer.MIN_VALUE, 0, 0, 0, 0, 4, 1);
        T.due("11: job", hall.job(2, 5, Integer.MAX_VALUE, NONE, 0), 1);
        dueOf("11", hall, 2, Integer.MAX_VALUE, 0, 0, 0, NONE, 5, 0);
        for (int odd : Halls.EDGES) {
            if (odd < 0 || odd > 5) {
                T.due("11: job " + odd, hall.job(2, odd, 0, NONE, 0), BAD);
            }
            if (odd < -1 || odd > 0) {
                T.due("11: own " + odd, hall.job(2, 0, 0, odd, 0), BAD);
            }
            if (odd < 0 || odd > 1) {
                T.due("11: patient " + odd, hall.job(2, 0, 0, NONE, odd), BAD);
            }
            if (odd != 2) {
                T.due("11: counter " + odd, hall.job(odd, 0, 0, NONE, 0), BAD);
            }
        }
        dueOf("11: refusals", hall, 2, Integer.MAX_VALUE, 0, 0, 0, NONE, 5, 0);
        hall.counter(2, 0, 0, 0, 1);
        for (int i = 0; i < 3; i++) {
            hall.send(0, 0);
        }
        T.due("11: of a shut one", hall.job(2, 1, 4, 0, 0), 1);
        dueOf("11: met, fell and shut stay", hall, 2, 4, 3, 3, 1, 0, 1, 0);
    }

    private static void jobsOfWants() {
        PostHall hall = new PostHall();
        for (int b = 0; b <= 5; b++) {
            for (int d = b < 4 ? 0 : 1; d <= 3; d++) {
                hall.counter(0, 0, 0, b, d);
                boolean bundle = d > 0 && !(b >= 4 && d == 1);
                for (int job = 0; job <= 5; job++) {
                    boolean can = bundle || job < 2 || job == 5;
                    T.due("11: job " + job + " of wants (" + b + ", " + d + ")",
                        hall.job(0, job, 0, NONE, 0), can ? 1 : BAD);
                }
            }
        }
        hall.counter(0, 0, 2, 0, 0);
        T.due("11: asks does not tell the jobs", hall.job(0, 2, 0, NONE, 0), BAD);
    }

    private static void shutting() {
        PostHall hall = new PostHall();
        hall.slip(0, 1);
        hall.counter(4, 0, 0, 0, 0);
        T.due("12: it was open", hall.shut(4, true), 0);
        T.due("15: shut", hall.of(4, 3), 1);
        T.due("12: a shut one is passed by", hall.send(0, 0), PostHall.LOST);
        T.due("12: it was shut", hall.shut(4, true), 1);
        T.due("12: it was shut, and opens", hall.shut(4, false), 1);
        T.due("15: open", hall.of(4, 3), 0);
        T.due("12: it was open, and is", hall.shut(4, false), 0);
        T.due("12: an open one meets", hall.send(0, 0), 4);
        for (int odd : Halls.EDGES) {
            if (odd != 4) {
                T.due("12: counter " + odd, hall.shut(odd, true), BAD);
            }
        }
    }

    private static void of() {
        PostHall hall = new PostHall();
        hall.slip(0, 1);
        hall.slip(0, 2);
        hall.counter(7, 0, 0, 0, 0);
        hall.job(7, 1, -9, 1, 1);
        hall.send(0, 0);
        hall.send(0, 7);
        dueOf("15", hall, 7, -9, 2, 0, 0, 1, 1, 1);
        for (int odd : Halls.EDGES) {
            if (odd < 0 || odd > 6) {
                T.due("15: what " + odd, hall.of(7, odd), 0);
            }
            if (odd != 7) {
                T.due("15: K of counter " + odd, hall.of(odd, 0), 0);
                T.due("15: OWN of counter " + odd, hall.of(odd, 4), 0);
            }
        }
    }

    private static void counting() {
        PostHall hall = new PostHall();
        hall.slip(0, 1);
        hall.bundle(0, 1, 1);
        hall.counter(5, 0, 0, 0, 1);
        T.due("16: messages", hall.count(0), 2);
        T.due("16: counters", hall.count(1), 1);
        T.due("16: sends", hall.count(2), 0);
        T.due("16: one that fails", hall.send(0, 0), -11);
        T.due("16: one that is lost", hall.send(1, 0), PostHall.LOST);
        T.due("16: one that is BAD", hall.send(2, 0), BAD);
        T.due("16: one that is BAD", hall.send(0, 8), BAD);
        T.due("16: sends", hall.count(2), 2);
        hall.shut(5, true);
        T.due("16: a shut counter is set", hall.count(1), 1);
        for (int odd : Halls.EDGES) {
            if (odd < 0 || odd > 2) {
                T.due("16: what " + odd, hall.count(odd), BAD);
            }
        }
    }

    private static void refusalsChangeNothing() {
        PostHall hall = new PostHall();
        int slip = hall.slip(0, 1);
        int bundle = hall.bundle(0, 1, 2);
        hall.counter(0, 0, 1, 0, 1);
        hall.job(0, 2, 1, slip, 1);
        hall.send(bundle, 0);
        String before = Halls.state(hall);
        hall.counter(8, 0, 0, 0, 0);
        hall.counter(0, 4, 0, 0, 0);
        hall.counter(1, 0, 0, 0, 4);
        hall.job(0, 6, 5, NONE, 0);
        hall.job(0, 1, 5, 21, 0);
        hall.job(0, 1, 5, slip, 2);
        hall.shut(1, true);
        hall.send(21, 0);
        hall.send(bundle, -1);
        hall.told(5);
        T.due("refusals change nothing", Halls.state(hall).equals(before));
    }
}
