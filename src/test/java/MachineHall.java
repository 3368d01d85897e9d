import java.lang.reflect.Array;
import java.util.ArrayList;
import java.util.List;
import java.util.Objects;

/**
 * The document's hall told in another way, to measure PostHall by: messages are real Java objects and
 * arrays, and it is the machine that refuses a cast, an index, a store or a null.
 */
final class MachineHall {
    private static final int NONE = -1, BAD = -2, FULL = -3, LOST = -4, NO = -5, SIZE = -6;

    private interface Tracked {
        void track(int by);
    }

    private static class Slip {
        int stamp;

        void mark(int by) {
            stamp = by;
        }
    }

    private static final class Card extends Slip {
        @Override
        void mark(int by) {
            super.mark(by + by);
        }
    }

    private static final class Parcel extends Slip implements Tracked {
        @Override
        public void track(int by) {
            stamp -= by;
        }
    }

    private static final class Limit extends RuntimeException {
        private static final long serialVersionUID = 1L;
    }

    private static final class Desk {
        Class<?> asks;
        Class<?> wants;
        int job;
        int number;
        Object own;
        boolean patient;
        boolean shut;
        int met;
        int fell;
    }

    private static final Class<?>[] BASES = {
        Slip.class, Card.class, Parcel.class, Tracked.class, byte.class, char.class
    };

    private final List<Object> messages = new ArrayList<>();
    private final Desk[] desks = new Desk[8];
    private final int[] told = {0, 0, 0, 0, NONE};
    private int sends;

    private static Class<?> kind(int b, int d) {
        if (b < 0 || b > 5 || d < 0 || d > 3 || b > 3 && d == 0) {
            return null;
        }
        Class<?> type = BASES[b];
        for (int i = 0; i < d; i++) {
            type = type.arrayType();
        }
        return type;
    }

    private boolean known(int m) {
        return m >= 0 && m < messages.size();
    }

    private boolean isSet(int k) {
        return k >= 0 && k < desks.length && desks[k] != null;
    }

    private int numberOf(Object message) {
        for (int m = 0; m < messages.size(); m++) {
            if (messages.get(m) == message) {
                return m;
            }
        }
        return NONE;
    }

    private int enter(Object message) {
        messages.add(message);
        return messages.size() - 1;
    }

    int slip(int base, int stamp) {
        if (base < 0 || base > 2) {
            return BAD;
        }
        if (messages.size() == 60) {
            return FULL;
        }
        Slip slip = base == 0 ? new Slip() : base == 1 ? new Card() : new Parcel();
        slip.stamp = stamp;
        return enter(slip);
    }

    int bundle(int base, int depth, int n) {
        if (kind(base, depth) == null || depth == 0 || n > 8) {
            return BAD;
        }
        if (messages.size() == 60) {
            return FULL;
        }
        try {
            return enter(Array.newInstance(kind(base, depth).getComponentType(), n));
        } catch (NegativeArraySizeException e) {
            return SIZE;
        }
    }

    int place(int m, int i, int x) {
        if (!known(m) || x != NONE && !known(x)) {
            return BAD;
        }
        if (!(messages.get(m) instanceof Object[] row)) {
            return NO;
        }
        try {
            row[i] = x == NONE ? null : messages.get(x);
            return 1;
        } catch (ArrayIndexOutOfBoundsException | ArrayStoreException e) {
            return NO;
        }
    }

    int placed(int m, int i) {
        if (!known(m)) {
            return BAD;
        }
        if (!(messages.get(m) instanceof Object[] row)) {
            return NO;
        }
        try {
            return numberOf(row[i]);
        } catch (ArrayIndexOutOfBoundsException e) {
            return NO;
        }
    }

    int figure(int m, int i, int v) {
        if (!known(m)) {
            return BAD;
        }
        try {
            if (messages.get(m) instanceof byte[] bytes) {
                bytes[i] = (byte) v;
            } else if (messages.get(m) instanceof char[] chars) {
                chars[i] = (char) v;
            } else {
                return NO;
            }
            return 1;
        } catch (ArrayIndexOutOfBoundsException e) {
            return NO;
        }
    }

    int number(int m, int i) {
        if (!known(m)) {
            return 0;
        }
        Object message = messages.get(m);
        try {
            if (message instanceof Slip slip) {
                return i == -1 ? slip.stamp : 0;
            }
            return message instanceof byte[] bytes ? bytes[i] : message instanceof char[] chars ? chars[i] : 0;
        } catch (ArrayIndexOutOfBoundsException e) {
            return 0;
        }
    }

    int is(int m, int b, int d) {
        if (!known(m) || kind(b, d) == null) {
            return BAD;
        }
        return kind(b, d).isInstance(messages.get(m)) ? 1 : 0;
    }

    int about(int m, int what) {
        if (!known(m) || what < 0 || what > 2) {
            return BAD;
        }
        Class<?> type = messages.get(m).getClass();
        if (what == 2) {
            return type.isArray() ? Array.getLength(messages.get(m)) : 0;
        }
        int depth = 0;
        while (type.isArray()) {
            type = type.getComponentType();
            depth++;
        }
        return what == 1 ? depth : List.of(BASES).indexOf(type);
    }

    int counter(int k, int asksBase, int asksDepth, int wantsBase, int wantsDepth) {
        if (k < 0 || k > 7 || kind(asksBase, asksDepth) == null || kind(wantsBase, wantsDepth) == null) {
            return BAD;
        }
        desks[k] = new Desk();
        desks[k].asks = kind(asksBase, asksDepth);
        desks[k].wants = kind(wantsBase, wantsDepth);
        return 1;
    }

    int job(int k, int job, int number, int own, int patient) {
        if (!isSet(k) || job < 0 || job > 5 || own != NONE && !known(own) || patient != 0 && patient != 1) {
            return BAD;
        }
        Desk desk = desks[k];
        if (job >= 2 && job <= 4 && !Object[].class.isAssignableFrom(desk.wants)) {
            return BAD;
        }
        desk.job = job;
        desk.number = number;
        desk.own = own == NONE ? null : messages.get(own);
        desk.patient = patient == 1;
        return 1;
    }

    int shut(int k, boolean on) {
        if (!isSet(k)) {
            return BAD;
        }
        int was = desks[k].shut ? 1 : 0;
        desks[k].shut = on;
        return was;
    }

    int send(int m, int k) {
        if (!known(m) || k < 0 || k > 7) {
            return BAD;
        }
        sends++;
        System.arraycopy(new int[] {0, 0, 0, 0, NONE}, 0, told, 0, 5);
        try {
            return goAlong(messages.get(m), k);
        } catch (ClassCastException e) {
            return -11;
        } catch (ArrayIndexOutOfBoundsException e) {
            return -12;
        } catch (ArrayStoreException e) {
            return -13;
        } catch (NullPointerException e) {
            return -14;
        } catch (Limit e) {
            return -15;
        }
    }

    private int goAlong(Object message, int from) {
        for (int k = from; k < desks.length; k++) {
            Desk desk = desks[k];
            if (desk == null || desk.shut || !desk.asks.isInstance(message)) {
                continue;
            }
            if (told[0] == 16) {
                throw new Limit();
            }
            told[0]++;
            boolean well = false;
            try {
                work(desk, k, desk.wants.cast(message));
                well = true;
            } catch (Limit e) {
                throw e;
            } catch (RuntimeException e) {
                if (!desk.patient) {
                    throw e;
                }
            } finally {
                note(desk, k, well);
            }
            if (well) {
                told[1]++;
                return k;
            }
        }
        told[2]++;
        return LOST;
    }

    private void note(Desk desk, int k, boolean well) {
        desk.met++;
        if (well) {
            return;
        }
        desk.fell++;
        desk.shut |= desk.fell % 3 == 0;
        told[3]++;
        told[4] = told[4] == NONE ? k : told[4];
    }

    private void work(Desk desk, int k, Object message) {
        switch (desk.job) {
            case 0 -> desk.number += message.getClass().isArray() ? Array.getLength(message) : 1;
            case 1 -> mark(desk, message);
            case 2 -> {
                Object own = desk.wants.getComponentType().cast(desk.own);
                ((Object[]) message)[desk.number] = own;
            }
            case 3 -> goAlong(Objects.requireNonNull(((Object[]) message)[desk.number]), k + 1);
            case 4 -> {
                for (Object inside : (Object[]) message) {
                    if (inside != null) {
                        goAlong(inside, k + 1);
                    }
                }
            }
            default -> desk.own = message;
        }
    }

    private static void mark(Desk desk, Object message) {
        if (desk.wants == Tracked.class) {
            ((Tracked) message).track(desk.number);
        } else if (message instanceof Slip slip) {
            slip.mark(desk.number);
        } else if (message instanceof byte[] bytes) {
            java.util.Arrays.fill(bytes, (byte) desk.number);
        } else if (message instanceof char[] chars) {
            java.util.Arrays.fill(chars, (char) desk.number);
        } else {
            ((Object[]) message)[0] = null;
        }
    }

    int told(int what) {
        return what < 0 || what > 4 ? BAD : told[what];
    }

    int of(int k, int what) {
        if (!isSet(k)) {
            return 0;
        }
        Desk desk = desks[k];
        return switch (what) {
            case 0 -> desk.number;
            case 1 -> desk.met;
            case 2 -> desk.fell;
            case 3 -> desk.shut ? 1 : 0;
            case 4 -> numberOf(desk.own);
            case 5 -> desk.job;
            case 6 -> desk.patient ? 1 : 0;
            default -> 0;
        };
    }

    int count(int what) {
        int set = 0;
        for (Desk desk : desks) {
            set += desk == null ? 0 : 1;
        }
        return what == 0 ? messages.size() : what == 1 ? set : what == 2 ? sends : BAD;
    }
}
