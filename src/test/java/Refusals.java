import java.util.function.Supplier;
import java.util.function.ToIntFunction;

/** Asks that a call is refused as due and that nothing which other calls show is changed by it. */
final class Refusals {
    private static final int NONE = PostHall.NONE;

    private final Due due;

    Refusals(Due due) {
        this.due = due;
    }

    /** The call goes to one of two halls made alike; what both tell behind it must be alike, too. */
    void refused(String call, Supplier<PostHall> made, ToIntFunction<PostHall> asked, int want) {
        PostHall touched = made.get();
        due.due(call, asked.applyAsInt(touched), want);
        due.due(call + " changes nothing", shown(touched).equals(shown(made.get())));
    }

    /** Some 350 calls on a hall of furnished(), 420 on one of full(): an object has 512. */
    private static String shown(PostHall hall) {
        return hall.count(0) < 60 ? Halls.state(hall) + sendings(hall) : fullState(hall) + sendings(hall);
    }

    /** What counters ask and want is shown by sending alone. */
    private static String sendings(PostHall hall) {
        StringBuilder text = new StringBuilder("\nsent:");
        for (int m = 0; m < Math.min(8, hall.count(0)); m++) {
            text.append('\n').append(hall.send(m, 0));
            for (int what = 0; what <= 4; what++) {
                text.append(' ').append(hall.told(what));
            }
        }
        for (int k = 0; k <= 7; k++) {
            text.append('\n').append(hall.of(k, 0)).append(' ').append(hall.of(k, 1)).append(' ').append(hall.of(k, 2));
        }
        return text.toString();
    }

    private static String fullState(PostHall hall) {
        StringBuilder text = new StringBuilder();
        for (int what = 0; what <= 2; what++) {
            text.append(hall.count(what)).append(' ');
        }
        for (int m = 0; m < 60; m++) {
            text.append('\n').append(hall.about(m, 0)).append(' ').append(hall.about(m, 1)).append(' ')
                .append(hall.about(m, 2)).append(' ').append(hall.number(m, -1)).append(' ').append(hall.placed(m, 0));
        }
        return text.toString();
    }

    /**
     * Messages 0 SLIP, 1 CARD, 2 PARCEL, 3 a bundle of slips (has 1 and none), 4 BYTES, 5 CHARS (2 figures each),
     * 6 a rack of bytes (has 4), 7 a bundle of cards (has none, 1 place); counters 0, 2, 7 are set, the others not;
     * the latest send has told numbers that no new object tells.
     */
    static PostHall furnished() {
        PostHall hall = new PostHall();
        hall.slip(0, 11);
        hall.slip(1, 12);
        hall.slip(2, 13);
        hall.bundle(0, 1, 2);
        hall.bundle(4, 1, 2);
        hall.bundle(5, 1, 2);
        hall.bundle(4, 2, 1);
        hall.bundle(1, 1, 1);
        hall.place(3, 0, 1);
        hall.figure(4, 1, -7);
        hall.figure(5, 1, 65535);
        hall.place(6, 0, 4);
        hall.counter(0, 0, 1, 0, 1);
        hall.job(0, 4, 77, 2, 1);
        hall.counter(2, 0, 0, 2, 0);
        hall.job(2, 1, 5, 0, 1);
        hall.counter(7, 4, 1, 4, 1);
        hall.job(7, 0, -9, NONE, 0);
        hall.send(3, 0);
        return hall;
    }

    /** 60 messages: 0 a bundle of slips (has 1), 1 CARD, 2 BYTES of 2, then slips. */
    static PostHall full() {
        PostHall hall = new PostHall();
        hall.bundle(0, 1, 2);
        hall.slip(1, 12);
        hall.bundle(4, 1, 2);
        for (int m = 3; m < 60; m++) {
            hall.slip(m % 3, 100 + m);
        }
        hall.place(0, 0, 1);
        return hall;
    }
}
