import java.util.NoSuchElementException;

/**
 * A ring of slots through which events go from producers to consumers that hang on one another.
 *
 * <p>This class looks at the arguments and throws; the classes inside it are only called with what
 * is allowed. A handler that THROWS, in the document's words, answers false here.
 */
public final class RingPipeline {
    public static final int NONE = -1;

    private static final int MOST_CONSUMERS = 8;
    private static final int PRODUCERS = 4;
    private static final int POOLS = 2;
    private static final int MOST_EVENTS = 20;

    private static final int SUM = 0;
    private static final int SMOOTH = 1;
    private static final int MEAN = 2;
    private static final int JOURNAL = 3;

    private static final int IGNORE = 0;
    private static final int HALT = 1;
    private static final int REWIND = 2;

    private static final int HANDLED = 0;
    private static final int IGNORED = 1;
    private static final int REWOUND = 2;
    private static final int HALTED = 3;

    private static final int CURSOR = 0;
    private static final int AVAILABLE = 1;
    private static final int PUBLISHED = 2;

    private final Ring ring;
    private final Consumer[] consumers = new Consumer[MOST_CONSUMERS];
    private final Pool[] pools = new Pool[POOLS];
    private int made;
    /** A bit for each consumer on which another one hangs. */
    private int hungOn;
    private long replayedSum;

    public RingPipeline(int slots) {
        ring = new Ring(slots == 4 || slots == 16 ? slots : 8);
    }

    public int consumer(int kind, int on, int policy, int pool)
            throws IllegalArgumentException, IllegalStateException {
        if (!isWithin(kind, SUM, JOURNAL) || !isWithin(policy, IGNORE, REWIND)) {
            throw new IllegalArgumentException("no such kind or policy");
        }
        if (on >>> made != 0) {
            throw new IllegalArgumentException("hangs on consumers that there are not");
        }
        if (pool != NONE && !mayJoin(pool, on, policy)) {
            throw new IllegalArgumentException("no such pool, or not fit for it");
        }
        if (made >= MOST_CONSUMERS || ring.cursor >= 0) {
            throw new IllegalStateException("there are eight, or something was claimed");
        }
        return add(new Consumer(newHandler(kind), on, policy, poolToJoin(pool, on)));
    }

    public long claim(int producer, int n) throws IllegalArgumentException, IllegalStateException {
        if (!isWithin(producer, 0, PRODUCERS - 1) || !isWithin(n, 1, ring.slots())) {
            throw new IllegalArgumentException("no such producer, or not so many slots");
        }
        if (ring.cursor + n - ring.slots() > leastPlace(lastInLine())) {
            throw new IllegalStateException("no room");
        }
        return ring.reserve(producer, n);
    }

    public boolean publish(int producer, long sequence, long value) throws NoSuchElementException {
        if (!ring.isOpen(producer, sequence)) {
            throw new NoSuchElementException("not claimed by this producer, or published");
        }
        ring.write(sequence, value);
        return sequence <= ring.available;
    }

    public int run(int consumer, int m) throws IllegalArgumentException, IllegalStateException {
        Consumer found = existing(consumer);
        if (!isWithin(m, 1, MOST_EVENTS)) {
            throw new IllegalArgumentException("m is not 1 .. 20");
        }
        if (found.halted) {
            throw new IllegalStateException("it halted before");
        }
        return found.advance(ring, leastPlace(found.on), m);
    }

    public long place(int consumer) throws IllegalArgumentException {
        return existing(consumer).reached();
    }

    public long total(int consumer) throws IllegalArgumentException {
        return existing(consumer).handler.amount();
    }

    public float level(int consumer) throws IllegalArgumentException {
        if (existing(consumer).handler instanceof Smooth smooth) {
            return smooth.level;
        }
        throw new IllegalArgumentException("no SMOOTH");
    }

    public double mean(int consumer) throws IllegalArgumentException {
        if (existing(consumer).handler instanceof Mean mean) {
            return mean.mean;
        }
        throw new IllegalArgumentException("no MEAN");
    }

    public int octet(int consumer, int i) throws IllegalArgumentException, IndexOutOfBoundsException {
        Journal journal = journalOf(consumer);
        if (!isWithin(i, 0, journal.length - 1)) {
            throw new IndexOutOfBoundsException("no such byte");
        }
        return journal.byteAt(i);
    }

    public int tear(int consumer, int n) throws IllegalArgumentException {
        Journal journal = journalOf(consumer);
        if (!isWithin(n, 0, journal.length)) {
            throw new IllegalArgumentException("it has not so many bytes");
        }
        journal.length -= n;
        return journal.length;
    }

    public int replay(int consumer) throws IllegalArgumentException {
        Journal journal = journalOf(consumer);
        int records = journal.soundRecords();
        replayedSum = journal.sumOfFirst(records);
        return records;
    }

    public long replayed() {
        return replayedSum;
    }

    public int count(int consumer, int what) throws IllegalArgumentException {
        Consumer found = existing(consumer);
        switch (what) {
            case HANDLED:
                return found.handled;
            case IGNORED:
                return found.ignored;
            case REWOUND:
                return found.rewound;
            case HALTED:
                return found.halted ? 1 : 0;
            default:
                throw new IllegalArgumentException("what is not 0 .. 3");
        }
    }

    public long state(int what, long sequence) throws IllegalArgumentException {
        if (what == CURSOR) {
            return ring.cursor;
        }
        if (what == AVAILABLE) {
            return ring.available;
        }
        if (what == PUBLISHED && sequence >= 0) {
            return ring.publishedInSlotOf(sequence);
        }
        throw new IllegalArgumentException("what is not 0 .. 2, or the sequence is below 0");
    }

    private static boolean isWithin(int x, int least, int most) {
        return least <= x && x <= most;
    }

    private Consumer existing(int number) {
        Consumer found = isWithin(number, 0, made - 1) ? consumers[number] : null;
        if (found == null) {
            throw new IllegalArgumentException("no such consumer");
        }
        return found;
    }

    private Journal journalOf(int consumer) {
        if (existing(consumer).handler instanceof Journal journal) {
            return journal;
        }
        throw new IllegalArgumentException("no JOURNAL");
    }

    private boolean mayJoin(int pool, int on, int policy) {
        if (!isWithin(pool, 0, POOLS - 1) || policy == REWIND) {
            return false;
        }
        return pools[pool] == null || pools[pool].on == on;
    }

    private Pool poolToJoin(int pool, int on) {
        if (!isWithin(pool, 0, POOLS - 1)) {
            return null;
        }
        if (pools[pool] == null) {
            pools[pool] = new Pool(on);
        }
        return pools[pool];
    }

    private int add(Consumer consumer) {
        if (consumer.pool != null) {
            consumer.pool.add(consumer);
        }
        consumers[made] = consumer;
        hungOn |= consumer.on;
        made++;
        return made - 1;
    }

    private static Handler newHandler(int kind) {
        switch (kind) {
            case SUM:
                return new Sum();
            case SMOOTH:
                return new Smooth();
            case MEAN:
                return new Mean();
            default:
                return new Journal();
        }
    }

    /** A bit for each consumer on which none hangs: those for which a slot must wait. */
    private int lastInLine() {
        return ((1 << made) - 1) & ~hungOn;
    }

    /**
     * The least place of the consumers whose bits are set. No place is ever beyond the last
     * available event, so this starts there, and it is the bound too where no bit is set.
     */
    private long leastPlace(int bits) {
        long least = ring.available;
        for (int i = 0; i < made; i++) {
            Consumer each = consumers[i];
            if (each != null && (bits >>> i & 1) != 0) {
                least = Math.min(least, each.reached());
            }
        }
        return least;
    }

    /** The slots, and which sequences were claimed and published in them. */
    private static final class Ring {
        final long[] values;
        final int[] producers;
        final long[] published;
        long cursor = NONE;
        long available = NONE;

        /** @param slots a power of two: slotOf needs one */
        Ring(int slots) {
            values = new long[slots];
            producers = new int[slots];
            published = new long[slots];
            for (int i = 0; i < slots; i++) {
                published[i] = NONE;
            }
        }

        int slots() {
            return values.length;
        }

        int slotOf(long sequence) {
            return (int) (sequence & (values.length - 1));
        }

        long reserve(int producer, int n) {
            long first = cursor + 1;
            for (int i = 0; i < n; i++) {
                producers[slotOf(first + i)] = producer;
            }
            cursor += n;
            return first;
        }

        /**
         * Whether a sequence is claimed by this producer and not yet published. A slot is claimed
         * anew only after its event was published, so one that was overtaken in its slot has been.
         */
        boolean isOpen(int producer, long sequence) {
            if (sequence < 0 || sequence > cursor) {
                return false;
            }
            int slot = slotOf(sequence);
            return published[slot] < sequence && producers[slot] == producer;
        }

        void write(long sequence, long value) {
            values[slotOf(sequence)] = value;
            published[slotOf(sequence)] = sequence;
            for (long next = available + 1; next <= cursor; next++) {
                if (published[slotOf(next)] != next) {
                    break;
                }
                available = next;
            }
        }

        long publishedInSlotOf(long sequence) {
            return published[slotOf(sequence)];
        }

        long valueOf(long sequence) {
            return values[slotOf(sequence)];
        }

        int producerOf(long sequence) {
            return producers[slotOf(sequence)];
        }
    }

    /** Workers that share the events: each one goes to one of them. */
    private static final class Pool {
        /** The consumers on which all of the pool hang, a bit for each. */
        final int on;
        private final Consumer[] workers = new Consumer[MOST_CONSUMERS];
        private int size;
        private long next;

        Pool(int on) {
            this.on = on;
        }

        void add(Consumer worker) {
            if (size < workers.length) {
                workers[size] = worker;
                size++;
            }
        }

        long takeNext() {
            next++;
            return next - 1;
        }

        /** The place of the pool: the sequence before all that are still to be handled. */
        long reached() {
            long least = next;
            for (int i = 0; i < size; i++) {
                if (workers[i] != null && workers[i].event != NONE) {
                    least = Math.min(least, workers[i].event);
                }
            }
            return least - 1;
        }
    }

    /** How a consumer goes through the events, and what it does when its handler throws. */
    private static final class Consumer {
        private static final int TIMES_BEFORE_IGNORED = 3;

        final Handler handler;
        final int on;
        final Pool pool;
        private final int policy;
        private long place = NONE;
        /** What a worker of a pool has taken and not yet handled. */
        long event = NONE;
        int handled;
        int ignored;
        int rewound;
        boolean halted;

        private long threwAt = NONE;
        private int threwThere;

        private long placeAtStart;
        private int handledAtStart;
        private int ignoredAtStart;

        Consumer(Handler handler, int on, int policy, Pool pool) {
            this.handler = handler;
            this.on = on;
            this.policy = policy;
            this.pool = pool;
        }

        long reached() {
            return pool == null ? place : pool.reached();
        }

        int advance(Ring ring, long limit, int most) {
            return pool == null ? goThrough(ring, limit, most) : share(pool, ring, limit, most);
        }

        private int goThrough(Ring ring, long limit, int most) {
            startBatch();
            int done = 0;
            while (done < most && place < limit) {
                if (!passes(ring, place + 1)) {
                    return halted ? done : NONE;
                }
                place++;
                done++;
            }
            return done;
        }

        private int share(Pool shared, Ring ring, long limit, int most) {
            int done = 0;
            while (done < most) {
                if (event == NONE) {
                    event = shared.takeNext();
                }
                if (event > limit || !passes(ring, event)) {
                    return done;
                }
                event = NONE;
                done++;
            }
            return done;
        }

        /** Whether an event was handled or is ignored; if not, the consumer halted or was rewound. */
        private boolean passes(Ring ring, long sequence) {
            if (handler.handles(sequence, ring.valueOf(sequence), ring.producerOf(sequence))) {
                handled++;
                return true;
            }
            if (policy == HALT) {
                halted = true;
                return false;
            }
            if (policy == REWIND && throwsAgain(sequence) < TIMES_BEFORE_IGNORED) {
                returnToStart();
                return false;
            }
            ignored++;
            return true;
        }

        /** How often, one after the other, the handler threw at this sequence. */
        private int throwsAgain(long sequence) {
            threwThere = sequence == threwAt ? threwThere + 1 : 1;
            threwAt = sequence;
            return threwThere;
        }

        private void startBatch() {
            placeAtStart = place;
            handledAtStart = handled;
            ignoredAtStart = ignored;
            handler.keep();
        }

        private void returnToStart() {
            place = placeAtStart;
            handled = handledAtStart;
            ignored = ignoredAtStart;
            handler.restore();
            rewound++;
        }
    }

    /** What a consumer does with an event, and what it has from the events before. */
    private abstract static class Handler {
        /** Whether the event was handled; if not, nothing has changed. */
        abstract boolean handles(long sequence, long value, int producer);

        /** Keeps what the handler has, for restore. */
        abstract void keep();

        /** Makes what the handler has as it was at the last keep. */
        abstract void restore();

        long amount() {
            return 0;
        }
    }

    private static final class Sum extends Handler {
        private static final long REFUSED = -1;

        private long total;
        private long kept;

        boolean handles(long sequence, long value, int producer) {
            if (value == REFUSED) {
                return false;
            }
            total += value;
            return true;
        }

        void keep() {
            kept = total;
        }

        void restore() {
            total = kept;
        }

        long amount() {
            return total;
        }
    }

    private static final class Smooth extends Handler {
        float level;
        private float kept;

        boolean handles(long sequence, long value, int producer) {
            if (value < 0) {
                return false;
            }
            level = level + ((float) value - level) * 0.25f;
            return true;
        }

        void keep() {
            kept = level;
        }

        void restore() {
            level = kept;
        }
    }

    private static final class Mean extends Handler {
        double mean;
        private int events;
        private double keptMean;
        private int keptEvents;

        boolean handles(long sequence, long value, int producer) {
            if (value < 0) {
                return false;
            }
            events++;
            mean = mean + ((double) value - mean) / (double) events;
            return true;
        }

        void keep() {
            keptMean = mean;
            keptEvents = events;
        }

        void restore() {
            mean = keptMean;
            events = keptEvents;
        }
    }

    private static final class Journal extends Handler {
        private static final int MOST_BYTES = 400;
        private static final int RECORD = 13;
        private static final int VALUE_AT = 3;
        private static final int VALUE_BYTES = 8;

        private final byte[] bytes = new byte[MOST_BYTES];
        int length;
        private int keptLength;

        boolean handles(long sequence, long value, int producer) {
            if (value < 0 || RECORD > MOST_BYTES - length) {
                return false;
            }
            int start = length;
            append(RECORD);
            append(sequence >>> 8);
            append(sequence);
            for (int i = VALUE_BYTES - 1; i >= 0; i--) {
                append(value >>> (8 * i));
            }
            append(producer);
            append(sumOfRecordAt(start));
            return true;
        }

        /** Bytes are only ever added behind the length, so that the length alone need be kept. */
        void keep() {
            keptLength = length;
        }

        void restore() {
            length = keptLength;
        }

        long amount() {
            return length;
        }

        int byteAt(int i) {
            return i >= 0 && i < length ? bytes[i] & 0xFF : 0;
        }

        int soundRecords() {
            int records = 0;
            for (int start = 0; start + RECORD <= length; start += RECORD) {
                if (!isSoundAt(start)) {
                    break;
                }
                records++;
            }
            return records;
        }

        long sumOfFirst(int records) {
            long sum = 0;
            for (int i = 0; i < records; i++) {
                sum += valueAt(RECORD * i + VALUE_AT);
            }
            return sum;
        }

        private void append(long lowest) {
            if (length < bytes.length) {
                bytes[length] = (byte) lowest;
                length++;
            }
        }

        private boolean isSoundAt(int start) {
            return byteAt(start) == RECORD && byteAt(start + RECORD - 1) == sumOfRecordAt(start);
        }

        private int sumOfRecordAt(int start) {
            int sum = 0;
            for (int i = 0; i < RECORD - 1; i++) {
                sum += byteAt(start + i);
            }
            return sum & 0xFF;
        }

        private long valueAt(int start) {
            long value = 0;
            for (int i = 0; i < VALUE_BYTES; i++) {
                value = value << 8 | byteAt(start + i);
            }
            return value;
        }
    }
}
