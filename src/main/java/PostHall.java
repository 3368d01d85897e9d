/**
 * A post hall: messages (slips, bundles of messages, rows of figures) go along
 * a row of counters, and each counter that asks for a message does its job with it.
 */
public final class PostHall {
    public static final int NONE = -1, BAD = -2, FULL = -3, LOST = -4, NO = -5, SIZE = -6;

    private static final int SLIP = 0, CARD = 1, PARCEL = 2, TRACKED = 3, BYTES = 4, CHARS = 5;
    private static final int WEIGH = 0, MARK = 1, LAY = 2, OPEN = 3, SPREAD = 4, KEEP = 5;
    private static final int WELL = 0, CAST = 1, INDEX = 2, STORE = 3, NULL = 4, LIMIT = 5;

    private static final int MOST_MESSAGES = 60;
    private static final int MOST_DEPTH = 3;
    private static final int MOST_PLACES = 8;
    private static final int COUNTERS = 8;
    private static final int MOST_MEETINGS = 16;
    private static final int FALLS_THAT_SHUT = 3;

    /** A sending that failed answers this less its failure. */
    private static final int FAILED = -10;

    private final Message[] messages = new Message[MOST_MESSAGES];
    private final Counter[] counters = new Counter[COUNTERS];
    private int messageCount;
    private int setCount;
    private int sendCount;

    private int meetings;
    private int done;
    private int lost;
    private int fallen;
    private int firstFallen = NONE;

    public PostHall() {
    }

    public int slip(int base, int stamp) {
        if (base < SLIP || base > PARCEL) {
            return BAD;
        }
        return enter(base, 0, 0, stamp);
    }

    public int bundle(int base, int depth, int n) {
        if (depth < 1 || !isKind(base, depth) || n > MOST_PLACES) {
            return BAD;
        }
        return enter(base, depth, n, 0);
    }

    public int place(int m, int i, int x) {
        Message bundle = messageAt(m);
        Message laid = messageAt(x);
        if (bundle == null || laid == null && x != NONE) {
            return BAD;
        }
        if (!bundle.hasMessagePlace(i) || !bundle.holds(laid)) {
            return NO;
        }
        bundle.places[i] = x;
        return 1;
    }

    public int placed(int m, int i) {
        Message bundle = messageAt(m);
        if (bundle == null) {
            return BAD;
        }
        return bundle.hasMessagePlace(i) ? bundle.places[i] : NO;
    }

    public int figure(int m, int i, int v) {
        Message figures = messageAt(m);
        if (figures == null) {
            return BAD;
        }
        if (!figures.hasNumber(i)) {
            return NO;
        }
        figures.places[i] = figures.lowestBits(v);
        return 1;
    }

    public int number(int m, int i) {
        Message message = messageAt(m);
        if (message == null) {
            return 0;
        }
        if (message.depth == 0) {
            return i == -1 ? message.stamp : 0;
        }
        return message.hasNumber(i) ? message.places[i] : 0;
    }

    public int is(int m, int b, int d) {
        Message message = messageAt(m);
        if (message == null || !isKind(b, d)) {
            return BAD;
        }
        return asInt(message.fits(b, d));
    }

    public int about(int m, int what) {
        Message message = messageAt(m);
        if (message == null) {
            return BAD;
        }
        switch (what) {
            case 0:
                return message.base;
            case 1:
                return message.depth;
            case 2:
                return message.places.length;
            default:
                return BAD;
        }
    }

    public int counter(int k, int asksBase, int asksDepth, int wantsBase, int wantsDepth) {
        if (k < 0 || k >= COUNTERS || !isKind(asksBase, asksDepth) || !isKind(wantsBase, wantsDepth)) {
            return BAD;
        }
        Counter counter = counters[k];
        if (counter == null) {
            counter = new Counter(k);
            counters[k] = counter;
            setCount++;
        }
        counter.setAnew(asksBase, asksDepth, wantsBase, wantsDepth);
        return 1;
    }

    public int job(int k, int job, int number, int own, int patient) {
        Counter counter = counterAt(k);
        if (counter == null || !counter.canDo(job)) {
            return BAD;
        }
        if (own != NONE && messageAt(own) == null || patient < 0 || patient > 1) {
            return BAD;
        }
        counter.job = job;
        counter.number = number;
        counter.own = own;
        counter.patient = patient == 1;
        return 1;
    }

    public int shut(int k, boolean on) {
        Counter counter = counterAt(k);
        if (counter == null) {
            return BAD;
        }
        int before = asInt(counter.shut);
        counter.shut = on;
        return before;
    }

    public int send(int m, int k) {
        Message message = messageAt(m);
        if (message == null || k < 0 || k >= COUNTERS) {
            return BAD;
        }
        sendCount++;
        meetings = 0;
        done = 0;
        lost = 0;
        fallen = 0;
        firstFallen = NONE;
        return carry(message, k);
    }

    public int told(int what) {
        switch (what) {
            case 0:
                return meetings;
            case 1:
                return done;
            case 2:
                return lost;
            case 3:
                return fallen;
            case 4:
                return firstFallen;
            default:
                return BAD;
        }
    }

    public int of(int k, int what) {
        Counter counter = counterAt(k);
        if (counter == null) {
            return 0;
        }
        switch (what) {
            case 0:
                return counter.number;
            case 1:
                return counter.met;
            case 2:
                return counter.fell;
            case 3:
                return asInt(counter.shut);
            case 4:
                return counter.own;
            case 5:
                return counter.job;
            case 6:
                return asInt(counter.patient);
            default:
                return 0;
        }
    }

    public int count(int what) {
        switch (what) {
            case 0:
                return messageCount;
            case 1:
                return setCount;
            case 2:
                return sendCount;
            default:
                return BAD;
        }
    }

    private static int asInt(boolean yes) {
        return yes ? 1 : 0;
    }

    private static boolean passesFor(int base, int b) {
        return base == b
            || b == SLIP && (base == CARD || base == PARCEL)
            || b == TRACKED && base == PARCEL;
    }

    /** Figures are bundles from the start, so their bases have no depth 0. */
    private static boolean isKind(int b, int d) {
        int least = b >= BYTES ? 1 : 0;
        return b >= SLIP && b <= CHARS && d >= least && d <= MOST_DEPTH;
    }

    private static boolean isOfFigures(int b, int d) {
        return b >= BYTES && d == 1;
    }

    /** The number of a new message, or a refusal. */
    private int enter(int base, int depth, int n, int stamp) {
        if (messageCount >= MOST_MESSAGES) {
            return FULL;
        }
        if (n < 0) {
            return SIZE;
        }
        Message message = new Message(messageCount, base, depth, n);
        message.stamp = stamp;
        messages[messageCount] = message;
        messageCount++;
        return message.number;
    }

    /** The message of that number; null: there is none such. */
    private Message messageAt(int m) {
        return m >= 0 && m < MOST_MESSAGES ? messages[m] : null;
    }

    /** The counter of that number; null: there is none such that is set. */
    private Counter counterAt(int k) {
        return k >= 0 && k < COUNTERS ? counters[k] : null;
    }

    /**
     * Answers as send() does. A job sends on from a later counter only, so the
     * calls within one another end with the row of counters.
     */
    private int carry(Message message, int from) {
        for (int k = from; k < COUNTERS; k++) {
            Counter counter = counterAt(k);
            if (counter == null || !counter.asksFor(message)) {
                continue;
            }
            int failure = meet(counter, message);
            if (failure == WELL) {
                done++;
                return k;
            }
            if (failure == LIMIT || !counter.patient) {
                return FAILED - failure;
            }
        }
        lost++;
        return LOST;
    }

    /** The meeting's failure, or WELL. The one beyond the limit leaves no trace at its counter. */
    private int meet(Counter counter, Message message) {
        if (meetings >= MOST_MEETINGS) {
            return LIMIT;
        }
        meetings++;
        int failure = counter.takes(message) ? work(counter, message) : CAST;
        counter.met++;
        if (failure != WELL) {
            noteFall(counter);
        }
        return failure;
    }

    private void noteFall(Counter counter) {
        counter.fell++;
        if (counter.fell % FALLS_THAT_SHUT == 0) {
            counter.shut = true;
        }
        fallen++;
        if (firstFallen == NONE) {
            firstFallen = counter.at;
        }
    }

    private int work(Counter counter, Message message) {
        switch (counter.job) {
            case WEIGH:
                counter.number += message.weight();
                return WELL;
            case MARK:
                return mark(counter, message);
            case LAY:
                return lay(counter, message);
            case OPEN:
                return open(counter, message);
            case SPREAD:
                return spread(counter, message);
            default:
                counter.own = message.number;
                return WELL;
        }
    }

    private static int mark(Counter counter, Message message) {
        if (message.depth == 0) {
            message.stamp = markedStamp(counter, message);
            return WELL;
        }
        if (message.figures) {
            message.fill(message.lowestBits(counter.number));
            return WELL;
        }
        if (!message.hasMessagePlace(0)) {
            return INDEX;
        }
        message.places[0] = NONE;
        return WELL;
    }

    /** What it is taken for picks the way of marking; what it is picks a card's own. */
    private static int markedStamp(Counter counter, Message slip) {
        if (counter.wantsBase == TRACKED) {
            return slip.stamp - counter.number;
        }
        return slip.base == CARD ? 2 * counter.number : counter.number;
    }

    private int lay(Counter counter, Message bundle) {
        Message own = messageAt(counter.own);
        if (own != null && !own.fits(counter.wantsBase, counter.wantsDepth - 1)) {
            return CAST;
        }
        if (!bundle.hasMessagePlace(counter.number)) {
            return INDEX;
        }
        if (!bundle.holds(own)) {
            return STORE;
        }
        bundle.places[counter.number] = counter.own;
        return WELL;
    }

    private int open(Counter counter, Message bundle) {
        if (!bundle.hasMessagePlace(counter.number)) {
            return INDEX;
        }
        Message inside = messageAt(bundle.places[counter.number]);
        if (inside == null) {
            return NULL;
        }
        return failureOf(carry(inside, counter.at + 1));
    }

    private int spread(Counter counter, Message bundle) {
        for (int i = 0; i < bundle.places.length; i++) {
            Message inside = messageAt(bundle.places[i]);
            if (inside == null) {
                continue;
            }
            int failure = failureOf(carry(inside, counter.at + 1));
            if (failure != WELL) {
                return failure;
            }
        }
        return WELL;
    }

    /** A message done or lost is no failure for the job that sent it. */
    private static int failureOf(int answer) {
        return answer < FAILED ? FAILED - answer : WELL;
    }

    private static final class Message {
        final int number;
        final int base;
        final int depth;
        final boolean figures;
        /** Numbers of figures; of other bundles the numbers of messages, or NONE. */
        final int[] places;
        int stamp;

        Message(int number, int base, int depth, int n) {
            this.number = number;
            this.base = base;
            this.depth = depth;
            figures = isOfFigures(base, depth);
            places = new int[n];
            if (!figures) {
                fill(NONE);
            }
        }

        void fill(int value) {
            for (int i = 0; i < places.length; i++) {
                places[i] = value;
            }
        }

        boolean fits(int b, int d) {
            return depth == d && passesFor(base, b);
        }

        /** Null stands for none, which every bundle holds. */
        boolean holds(Message x) {
            return x == null || x.fits(base, depth - 1);
        }

        /** A slip was made without places, so that it has none here either. */
        boolean hasMessagePlace(int i) {
            return !figures && i >= 0 && i < places.length;
        }

        boolean hasNumber(int i) {
            return figures && i >= 0 && i < places.length;
        }

        int weight() {
            return depth == 0 ? 1 : places.length;
        }

        int lowestBits(int v) {
            if (base == BYTES) {
                return (byte) v;
            }
            return (char) v;
        }
    }

    private static final class Counter {
        final int at;
        int asksBase;
        int asksDepth;
        int wantsBase;
        int wantsDepth;
        int job;
        int number;
        int own;
        boolean patient;
        boolean shut;
        int met;
        int fell;

        Counter(int at) {
            this.at = at;
        }

        void setAnew(int newAsksBase, int newAsksDepth, int newWantsBase, int newWantsDepth) {
            asksBase = newAsksBase;
            asksDepth = newAsksDepth;
            wantsBase = newWantsBase;
            wantsDepth = newWantsDepth;
            job = WEIGH;
            number = 0;
            own = NONE;
            patient = false;
            shut = false;
            met = 0;
            fell = 0;
        }

        boolean asksFor(Message message) {
            return !shut && message.fits(asksBase, asksDepth);
        }

        boolean takes(Message message) {
            return message.fits(wantsBase, wantsDepth);
        }

        boolean canDo(int newJob) {
            if (newJob == LAY || newJob == OPEN || newJob == SPREAD) {
                return wantsDepth > 0 && !isOfFigures(wantsBase, wantsDepth);
            }
            return newJob >= WEIGH && newJob <= KEEP;
        }
    }
}
