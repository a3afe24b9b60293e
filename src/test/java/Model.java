import java.math.BigInteger;
import java.util.ArrayList;
import java.util.HashMap;
import java.util.HashSet;
import java.util.List;
import java.util.Map;
import java.util.NoSuchElementException;
import java.util.Set;

/** The document once more, written to be plain: it keeps every event for ever and no sum twice. */
final class Model {
    private static final class Event {
        int producer;
        boolean published;
        long value;
    }

    /** What a rewind brings back. */
    private static final class Held {
        long place = -1;
        BigInteger total = BigInteger.ZERO;
        float level;
        double mean;
        List<Integer> bytes = new ArrayList<>();
        int handled;
        int ignored;

        Held copy() {
            Held other = new Held();
            other.place = place;
            other.total = total;
            other.level = level;
            other.mean = mean;
            other.bytes = new ArrayList<>(bytes);
            other.handled = handled;
            other.ignored = ignored;
            return other;
        }
    }

    private static final class One {
        int kind;
        Set<Integer> on = new HashSet<>();
        int policy;
        int pool;
        Held held = new Held();
        Long has;
        boolean halted;
        List<Long> rewindsAt = new ArrayList<>();
    }

    private final int slots;
    private final List<Event> events = new ArrayList<>();
    private final List<One> ones = new ArrayList<>();
    private final Map<Integer, Long> takenLast = new HashMap<>();
    private long replayed;

    Model(int slots) {
        this.slots = List.of(4, 8, 16).contains(slots) ? slots : 8;
    }

    private static void argument(boolean right) {
        if (!right) {
            throw new IllegalArgumentException();
        }
    }

    private static void state(boolean right) {
        if (!right) {
            throw new IllegalStateException();
        }
    }

    private One one(int consumer) {
        argument(consumer >= 0 && consumer < ones.size());
        return ones.get(consumer);
    }

    private One one(int consumer, int kind) {
        One found = one(consumer);
        argument(found.kind == kind);
        return found;
    }

    int consumer(int kind, int on, int policy, int pool) {
        argument(kind >= 0 && kind <= 3 && policy >= 0 && policy <= 2 && pool >= -1 && pool <= 1);
        argument(!(policy == 2 && pool != -1));
        One made = new One();
        for (int bit = 0; bit < 32; bit++) {
            if ((on & 1 << bit) != 0) {
                argument(bit < ones.size());
                made.on.add(bit);
            }
        }
        for (One other : ones) {
            argument(pool == -1 || other.pool != pool || other.on.equals(made.on));
        }
        state(ones.size() < 8 && events.isEmpty());
        made.kind = kind;
        made.policy = policy;
        made.pool = pool;
        ones.add(made);
        return ones.size() - 1;
    }

    private long available() {
        int last = -1;
        while (last + 1 < events.size() && events.get(last + 1).published) {
            last++;
        }
        return last;
    }

    private long placeOf(One one) {
        if (one.pool == -1) {
            return one.held.place;
        }
        Long least = null;
        for (One other : ones) {
            if (other.pool == one.pool && other.has != null && (least == null || other.has < least)) {
                least = other.has;
            }
        }
        return least == null ? takenLast.getOrDefault(one.pool, -1L) : least - 1;
    }

    private long room() {
        if (ones.isEmpty()) {
            return available();
        }
        long least = Long.MAX_VALUE;
        for (int i = 0; i < ones.size(); i++) {
            int number = i;
            if (ones.stream().noneMatch(other -> other.on.contains(number))) {
                least = Math.min(least, placeOf(ones.get(i)));
            }
        }
        return least;
    }

    long claim(int producer, int n) {
        argument(producer >= 0 && producer <= 3 && n >= 1 && n <= slots);
        state(events.size() - 1 + n - slots <= room());
        for (int i = 0; i < n; i++) {
            Event event = new Event();
            event.producer = producer;
            events.add(event);
        }
        return events.size() - n;
    }

    boolean publish(int producer, long sequence, long value) {
        if (sequence < 0 || sequence >= events.size()) {
            throw new NoSuchElementException();
        }
        Event event = events.get((int) sequence);
        if (event.producer != producer || event.published) {
            throw new NoSuchElementException();
        }
        event.published = true;
        event.value = value;
        return sequence <= available();
    }

    private long howFar(One one) {
        long far = available();
        for (int other : one.on) {
            far = Math.min(far, placeOf(ones.get(other)));
        }
        return far;
    }

    int run(int consumer, int m) {
        One one = one(consumer);
        argument(m >= 1 && m <= 20);
        state(!one.halted);
        return one.pool == -1 ? runAlone(one, m) : runWorker(one, m);
    }

    private int runAlone(One one, int m) {
        Held before = one.held.copy();
        long far = howFar(one);
        for (long s = before.place + 1; s <= far && s <= before.place + m; s++) {
            if (handle(one, s)) {
                one.held.handled++;
            } else if (one.policy == 1) {
                one.halted = true;
                break;
            } else if (one.policy == 2 && !lastTwoAt(one.rewindsAt, s)) {
                one.rewindsAt.add(s);
                one.held = before;
                return -1;
            } else {
                one.held.ignored++;
            }
            one.held.place = s;
        }
        return (int) (one.held.place - before.place);
    }

    private static boolean lastTwoAt(List<Long> rewinds, long s) {
        int n = rewinds.size();
        return n >= 2 && rewinds.get(n - 1) == s && rewinds.get(n - 2) == s;
    }

    private int runWorker(One one, int m) {
        for (int done = 0; done < m; done++) {
            if (one.has == null) {
                one.has = takenLast.getOrDefault(one.pool, -1L) + 1;
                takenLast.put(one.pool, one.has);
            }
            if (one.has > howFar(one)) {
                return done;
            }
            if (handle(one, one.has)) {
                one.held.handled++;
            } else if (one.policy == 1) {
                one.halted = true;
                return done;
            } else {
                one.held.ignored++;
            }
            one.has = null;
        }
        return m;
    }

    /** False when the handler throws. */
    private boolean handle(One one, long s) {
        Event event = events.get((int) s);
        Held held = one.held;
        long v = event.value;
        if (one.kind == 0 ? v == -1 : v < 0) {
            return false;
        }
        switch (one.kind) {
            case 0 -> held.total = held.total.add(BigInteger.valueOf(v));
            case 1 -> held.level = held.level + ((float) v - held.level) * 0.25f;
            case 2 -> held.mean = held.mean + ((double) v - held.mean) / (held.handled + 1);
            default -> {
                if (held.bytes.size() + 13 > 400) {
                    return false;
                }
                held.bytes.addAll(record(s, event));
            }
        }
        return true;
    }

    private static List<Integer> record(long s, Event event) {
        List<Integer> record = new ArrayList<>();
        record.add(13);
        record.add((int) (s / 256 % 256));
        record.add((int) (s % 256));
        String hex = String.format("%016x", event.value);
        for (int i = 0; i < 16; i += 2) {
            record.add(Integer.parseInt(hex.substring(i, i + 2), 16));
        }
        record.add(event.producer);
        record.add(record.stream().mapToInt(Integer::intValue).sum() % 256);
        return record;
    }

    long place(int consumer) {
        return placeOf(one(consumer));
    }

    long total(int consumer) {
        One one = one(consumer);
        return one.kind == 0 ? one.held.total.longValue() : one.held.bytes.size();
    }

    float level(int consumer) {
        return one(consumer, 1).held.level;
    }

    double mean(int consumer) {
        return one(consumer, 2).held.mean;
    }

    int octet(int consumer, int i) {
        List<Integer> bytes = one(consumer, 3).held.bytes;
        if (i < 0 || i >= bytes.size()) {
            throw new IndexOutOfBoundsException();
        }
        return bytes.get(i);
    }

    int tear(int consumer, int n) {
        Held held = one(consumer, 3).held;
        argument(n >= 0 && n <= held.bytes.size());
        held.bytes = new ArrayList<>(held.bytes.subList(0, held.bytes.size() - n));
        return held.bytes.size();
    }

    int replay(int consumer) {
        List<Integer> rest = one(consumer, 3).held.bytes;
        int records = 0;
        BigInteger sum = BigInteger.ZERO;
        while (rest.size() >= 13 && rest.get(0) == 13
                && rest.get(12) == rest.subList(0, 12).stream().mapToInt(Integer::intValue).sum() % 256) {
            StringBuilder hex = new StringBuilder();
            rest.subList(3, 11).forEach(b -> hex.append(String.format("%02x", b)));
            sum = sum.add(BigInteger.valueOf(Long.parseUnsignedLong(hex.toString(), 16)));
            records++;
            rest = rest.subList(13, rest.size());
        }
        replayed = sum.longValue();
        return records;
    }

    long replayed() {
        return replayed;
    }

    int count(int consumer, int what) {
        One one = one(consumer);
        argument(what >= 0 && what <= 3);
        return List.of(one.held.handled, one.held.ignored, one.rewindsAt.size(), one.halted ? 1 : 0).get(what);
    }

    long state(int what, long sequence) {
        argument(what >= 0 && what <= 2 && (what != 2 || sequence >= 0));
        if (what == 0) {
            return events.size() - 1;
        }
        if (what == 1) {
            return available();
        }
        long last = -1;
        for (int s = 0; s < events.size(); s++) {
            if (events.get(s).published && s % slots == sequence % slots) {
                last = s;
            }
        }
        return last;
    }
}
