/** Objects that several tests begin with. */
final class Make {
    static final int SUM = 0;
    static final int SMOOTH = 1;
    static final int MEAN = 2;
    static final int JOURNAL = 3;
    static final int IGNORE = 0;
    static final int HALT = 1;
    static final int REWIND = 2;
    static final int NONE = RingPipeline.NONE;

    private Make() {
    }

    /** A ring of 16 with one consumer, behind whose place these values are published. */
    static RingPipeline one(int kind, int policy, long... values) {
        RingPipeline x = new RingPipeline(16);
        x.consumer(kind, 0, policy, NONE);
        publishAll(x, values);
        return x;
    }

    /** Claims and publishes for producer 0. */
    static void publishAll(RingPipeline x, long... values) {
        for (long value : values) {
            x.publish(0, x.claim(0, 1), value);
        }
    }
}
