import java.util.ArrayList;
import java.util.List;
import java.util.Random;

/** Long runs of calls, the same each time, on a PostHall and on a MachineHall: all answers must agree. */
public final class MachineTest {
    private static final Due T = new Due("MachineTest");
    private static final int RUNS = 4000;
    private static final int MOST_CALLS = 512;
    private static final int NONE = PostHall.NONE;

    /** How often send() answered each number from -15 (LIMIT) to 7, told as answer + 15. */
    private static final int[] ANSWERS = new int[23];
    /** Limits with so few falls that they can all be meetings around the limit's. */
    private static int limitsWithoutAnEarlierFall;

    private final PostHall hall = new PostHall();
    private final MachineHall machine = new MachineHall();
    private final Random random;
    private final List<String> calls = new ArrayList<>();
    private boolean agree = true;

    private MachineTest(long seed) {
        random = new Random(seed);
    }

    public static void main(String[] args) {
        for (int run = 0; run < RUNS; run++) {
            MachineTest test = new MachineTest(run);
            if (run % 4 == 1) {
                test.crowd();
            } else {
                test.furnish();
            }
            test.play(run % 4 == 0);
            T.due("run " + run + ":\n  " + (test.agree ? "" : String.join("\n  ", test.calls)) + "\n", test.agree);
            if (!test.agree) {
                break;
            }
        }
        for (int answer = -15; answer <= 7; answer++) {
            boolean real = answer < -10 || answer >= 0 || answer == PostHall.LOST || answer == PostHall.BAD;
            T.due("the runs reach the answer " + answer, real ? ANSWERS[answer + 15] >= 50 : ANSWERS[answer + 15] == 0);
        }
        T.due("the runs reach limits without an earlier fall", limitsWithoutAnEarlierFall >= 50);
        T.end();
    }

    private void furnish() {
        int kinds = 6 + random.nextInt(30);
        for (int i = 0; i < kinds; i++) {
            makeMessage();
        }
        for (int i = 0; i < 60; i++) {
            layMessage();
        }
        for (int k = 0; k < 8; k++) {
            setCounter(k);
        }
    }

    /** Racks that are nearly full and counters that spread them, so that many meetings come of one send. */
    private void crowd() {
        for (int depth = 0; depth <= 3; depth++) {
            for (int i = 0; i < 4 - depth; i++) {
                if (depth == 0) {
                    slip(random.nextInt(3), random.nextInt());
                } else {
                    bundle(random.nextInt(3), depth, 3 + random.nextInt(6));
                }
            }
        }
        for (int i = 0; i < 100; i++) {
            layMessage();
        }
        for (int k = 0; k < 8; k++) {
            int depth = Math.max(0, 3 - (k + random.nextInt(2)) / 2);
            int wants = random.nextInt(8) == 0 ? random.nextInt(3) : 0;
            counter(k, random.nextInt(3) * random.nextInt(2), depth, wants, depth);
            job(k, depth == 0 ? random.nextInt(2) : 4, random.nextInt(9), NONE, random.nextInt(2));
        }
    }

    private void play(boolean wild) {
        while (agree && calls.size() < MOST_CALLS - 40) {
            if (wild && random.nextInt(3) == 0) {
                wildCall();
            } else {
                tameCall();
            }
        }
    }

    private void same(String call, int got, int want) {
        calls.add(call + " answered " + got + ", due is " + want);
        agree &= got == want;
    }

    private int message() {
        return random.nextInt(Math.max(1, machine.count(0)));
    }

    /** Some message that is (b, d), or any if none is found soon. */
    private int messageThatIs(int b, int d) {
        int m = message();
        for (int i = 0; i < 30 && machine.is(m, b, d) != 1; i++) {
            m = message();
        }
        return m;
    }

    private int messageOfDepth(int least) {
        int m = message();
        for (int i = 0; i < 10 && machine.about(m, 1) < least; i++) {
            m = message();
        }
        return m;
    }

    private int baseThatPasses(int base) {
        int[][] ways = {{0}, {1, 0}, {2, 0, 3}, {3}, {4}, {5}};
        return ways[base][random.nextInt(ways[base].length)];
    }

    private void makeMessage() {
        if (random.nextInt(3) == 0) {
            slip(random.nextInt(3), random.nextInt());
        } else {
            bundle(random.nextInt(10) % 6, 1 + random.nextInt(3), random.nextInt(9));
        }
    }

    private void layMessage() {
        int m = messageOfDepth(1);
        int base = machine.about(m, 0);
        int depth = machine.about(m, 1);
        int x = random.nextInt(9) == 0 ? message() : depth > 0 ? messageThatIs(base, depth - 1) : NONE;
        place(m, random.nextInt(1 + machine.about(m, 2)), x);
    }

    private void setCounter(int k) {
        int m = messageOfDepth(random.nextInt(3));
        int base = machine.about(m, 0);
        int depth = machine.about(m, 1);
        int wants = random.nextInt(5) == 0 ? random.nextInt(6) : baseThatPasses(base);
        counter(k, baseThatPasses(base), depth, wants, depth);
        setJob(k, wants, depth);
    }

    private void setJob(int k, int wants, int depth) {
        int job = depth > 0 && random.nextBoolean() ? 3 + random.nextInt(2) : random.nextInt(6);
        int own = depth > 0 && random.nextInt(4) > 0 ? messageThatIs(wants, depth - 1) : random.nextInt(8) - 1;
        int number = random.nextInt(6) == 0 ? random.nextInt() : random.nextInt(6) - 1;
        job(k, job, number, own, random.nextInt(2));
    }

    private void tameCall() {
        int k = random.nextInt(8);
        switch (random.nextInt(14)) {
            case 0 -> setCounter(k);
            case 1 -> shut(k, random.nextInt(4) == 0);
            case 2 -> layMessage();
            case 3 -> job(k, random.nextInt(6), random.nextInt(10) - 1, random.nextInt(20) - 1, random.nextInt(2));
            case 4 -> figure(message(), random.nextInt(3), random.nextInt());
            case 5 -> is(message(), random.nextInt(6), random.nextInt(4));
            case 6 -> look();
            default -> {
                send(messageOfDepth(random.nextInt(4)), random.nextInt(8) * random.nextInt(2));
                look();
            }
        }
    }

    private void look() {
        for (int what = 0; what <= 4; what++) {
            same("told(" + what + ")", hall.told(what), machine.told(what));
        }
        int k = random.nextInt(8);
        for (int what = 0; what <= 6; what++) {
            same("of(" + k + ", " + what + ")", hall.of(k, what), machine.of(k, what));
        }
        int m = message();
        for (int i = -1; i <= 2; i++) {
            same("number(" + m + ", " + i + ")", hall.number(m, i), machine.number(m, i));
            same("placed(" + m + ", " + i + ")", hall.placed(m, i), machine.placed(m, i));
        }
        for (int what = 0; what <= 2; what++) {
            same("count(" + what + ")", hall.count(what), machine.count(what));
            same("about(" + m + ", " + what + ")", hall.about(m, what), machine.about(m, what));
        }
    }

    private int wild() {
        return random.nextBoolean() ? Halls.EDGES[random.nextInt(Halls.EDGES.length)] : random.nextInt(10) - 2;
    }

    private void wildCall() {
        int a = wild();
        int b = wild();
        switch (random.nextInt(15)) {
            case 0 -> slip(a, b);
            case 1 -> bundle(a, b, wild());
            case 2 -> place(a, b, wild());
            case 3 -> same("placed(" + a + ", " + b + ")", hall.placed(a, b), machine.placed(a, b));
            case 4 -> figure(a, b, wild());
            case 5 -> same("number(" + a + ", " + b + ")", hall.number(a, b), machine.number(a, b));
            case 6 -> is(a, b, wild());
            case 7 -> same("about(" + a + ", " + b + ")", hall.about(a, b), machine.about(a, b));
            case 8 -> counter(a, b, wild(), wild(), wild());
            case 9 -> job(a, b, wild(), wild(), wild());
            case 10 -> shut(a, random.nextBoolean());
            case 11 -> send(a, b);
            case 12 -> same("told(" + a + ")", hall.told(a), machine.told(a));
            case 13 -> same("of(" + a + ", " + b + ")", hall.of(a, b), machine.of(a, b));
            default -> same("count(" + a + ")", hall.count(a), machine.count(a));
        }
    }

    private void slip(int base, int stamp) {
        same("slip(" + base + ", " + stamp + ")", hall.slip(base, stamp), machine.slip(base, stamp));
    }

    private void bundle(int base, int depth, int n) {
        same("bundle(" + base + ", " + depth + ", " + n + ")",
            hall.bundle(base, depth, n), machine.bundle(base, depth, n));
    }

    private void place(int m, int i, int x) {
        same("place(" + m + ", " + i + ", " + x + ")", hall.place(m, i, x), machine.place(m, i, x));
    }

    private void figure(int m, int i, int v) {
        same("figure(" + m + ", " + i + ", " + v + ")", hall.figure(m, i, v), machine.figure(m, i, v));
    }

    private void is(int m, int b, int d) {
        same("is(" + m + ", " + b + ", " + d + ")", hall.is(m, b, d), machine.is(m, b, d));
    }

    private void counter(int k, int asksBase, int asksDepth, int wantsBase, int wantsDepth) {
        same("counter(" + k + ", " + asksBase + ", " + asksDepth + ", " + wantsBase + ", " + wantsDepth + ")",
            hall.counter(k, asksBase, asksDepth, wantsBase, wantsDepth),
            machine.counter(k, asksBase, asksDepth, wantsBase, wantsDepth));
    }

    private void job(int k, int job, int number, int own, int patient) {
        same("job(" + k + ", " + job + ", " + number + ", " + own + ", " + patient + ")",
            hall.job(k, job, number, own, patient), machine.job(k, job, number, own, patient));
    }

    private void shut(int k, boolean on) {
        same("shut(" + k + ", " + on + ")", hall.shut(k, on), machine.shut(k, on));
    }

    private void send(int m, int k) {
        int got = hall.send(m, k);
        same("send(" + m + ", " + k + ")", got, machine.send(m, k));
        if (got >= -15 && got <= 7) {
            ANSWERS[got + 15]++;
        }
        int around = machine.told(3);
        if (got == -15 && around > 0 && around <= 2) {
            limitsWithoutAnEarlierFall++;
        }
    }
}
