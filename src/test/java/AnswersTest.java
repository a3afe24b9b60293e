/** Promises 6 to 9, 14 and 15: place, total, level, mean, count and state. */
public final class AnswersTest {
    private static final int[] NO_CONSUMERS = {-1, 4, 8, 31, 32, Integer.MIN_VALUE, Integer.MAX_VALUE};

    public static void main(String[] args) {
        places();
        totals();
        levels();
        means();
        counts();
        states();
        Due.finish();
    }

    /** One consumer of each kind, its number being its kind, through with these values. */
    private static RingPipeline ofEachKind(long... values) {
        RingPipeline x = new RingPipeline(16);
        for (int kind = 0; kind < 4; kind++) {
            x.consumer(kind, 0, Make.IGNORE, -1);
        }
        Make.publishAll(x, values);
        for (int kind = 0; kind < 4; kind++) {
            x.run(kind, 20);
        }
        return x;
    }

    private static void places() {
        RingPipeline x = ofEachKind(1, 2);
        Make.publishAll(x, 3, 4);
        x.run(1, 1);
        Due.due("place of 0", 1L, () -> x.place(0));
        Due.due("place of 1", 2L, () -> x.place(1));
        for (int consumer : NO_CONSUMERS) {
            Due.due("place of " + consumer, Due.ARGUMENT, () -> x.place(consumer));
        }
    }

    private static void totals() {
        RingPipeline x = ofEachKind(5, -7, -1, 11);
        Due.due("SUM takes all but -1", 9L, () -> x.total(0));
        Due.due("SMOOTH", 0L, () -> x.total(1));
        Due.due("MEAN", 0L, () -> x.total(2));
        Due.due("JOURNAL", 26L, () -> x.total(3));
        for (int consumer : NO_CONSUMERS) {
            Due.due("total of " + consumer, Due.ARGUMENT, () -> x.total(consumer));
        }
        RingPipeline wraps = Make.one(Make.SUM, Make.IGNORE, Long.MAX_VALUE, 2, Long.MIN_VALUE, -2);
        wraps.run(0, 2);
        Due.due("above the greatest", Long.MIN_VALUE + 1, () -> wraps.total(0));
        wraps.run(0, 2);
        Due.due("below the least", -1L, () -> wraps.total(0));
    }

    private static void levels() {
        long[] values = {3, 10, 0, -1, 16777217, Long.MAX_VALUE, -5, 1};
        RingPipeline x = ofEachKind(values);
        float level = 0;
        for (long value : values) {
            level = value < 0 ? level : level + ((float) value - level) * 0.25f;
        }
        Due.due("level", level, () -> x.level(1));
        int[] others = {0, 2, 3};
        for (int consumer : others) {
            Due.due("level of " + consumer, Due.ARGUMENT, () -> x.level(consumer));
        }
        for (int consumer : NO_CONSUMERS) {
            Due.due("level of " + consumer, Due.ARGUMENT, () -> x.level(consumer));
        }
        RingPipeline first = ofEachKind(1);
        Due.due("level of one event", 0.25f, () -> first.level(1));
        RingPipeline rounded = ofEachKind(3, 16777219);
        float second = 0.75f + (16777220f - 0.75f) * 0.25f;
        Due.due("the value is a float before anything is taken off", second, () -> rounded.level(1));
    }

    private static void means() {
        long[] values = {3, 10, 0, -1, 9007199254740993L, Long.MAX_VALUE, -5, 1};
        RingPipeline x = ofEachKind(values);
        double mean = 0;
        int n = 0;
        for (long value : values) {
            n += value < 0 ? 0 : 1;
            mean = value < 0 ? mean : mean + ((double) value - mean) / n;
        }
        double due = mean;
        Due.due("mean", due, () -> x.mean(2));
        int[] others = {0, 1, 3};
        for (int consumer : others) {
            Due.due("mean of " + consumer, Due.ARGUMENT, () -> x.mean(consumer));
        }
        for (int consumer : NO_CONSUMERS) {
            Due.due("mean of " + consumer, Due.ARGUMENT, () -> x.mean(consumer));
        }
        RingPipeline first = ofEachKind(7, -1, 8);
        Due.due("ignored ones are not among n", 7.5, () -> first.mean(2));
    }

    private static void counts() {
        RingPipeline x = ofEachKind(5, -7, -1, 11);
        int[] handled = {3, 2, 2, 2};
        for (int kind = 0; kind < 4; kind++) {
            int k = kind;
            Due.due("handled by " + k, handled[k], () -> x.count(k, 0));
            Due.due("ignored by " + k, 4 - handled[k], () -> x.count(k, 1));
            Due.due("rewound " + k, 0, () -> x.count(k, 2));
            Due.due("halted " + k, 0, () -> x.count(k, 3));
        }
        int[] wrong = {-1, 4, Integer.MIN_VALUE, Integer.MAX_VALUE};
        for (int what : wrong) {
            Due.due("count of what " + what, Due.ARGUMENT, () -> x.count(0, what));
        }
        for (int consumer : NO_CONSUMERS) {
            Due.due("count of " + consumer, Due.ARGUMENT, () -> x.count(consumer, 0));
        }
        RingPipeline back = Make.one(Make.SUM, Make.REWIND, 1, -1, 2, -1);
        back.run(0, 1);
        back.run(0, 20);
        back.run(0, 20);
        Due.due("1 is ignored, then 3 rewinds", -1, () -> back.run(0, 20));
        Due.due("handled before the batch", 1, () -> back.count(0, 0));
        Due.due("ignored before the batch", 0, () -> back.count(0, 1));
        Due.due("rewound", 3, () -> back.count(0, 2));
    }

    private static void states() {
        RingPipeline x = new RingPipeline(4);
        Make.publishAll(x, 1, 2, 3, 4, 5);
        x.claim(0, 3);
        x.publish(0, 6, 1);
        Due.due("cursor", 7L, () -> x.state(0, -5));
        Due.due("available", 4L, () -> x.state(1, -5));
        long[] published = {4, 1, 6, 3};
        long[] laps = {0, 4, 400, Long.MAX_VALUE - 3};
        for (long lap : laps) {
            for (int slot = 0; slot < 4; slot++) {
                long sequence = lap + slot;
                Due.due("slot of " + sequence, published[slot], () -> x.state(2, sequence));
            }
        }
        Due.due("slot of -1", Due.ARGUMENT, () -> x.state(2, -1));
        Due.due("slot of the least", Due.ARGUMENT, () -> x.state(2, Long.MIN_VALUE));
        int[] wrong = {-1, 3, Integer.MIN_VALUE, Integer.MAX_VALUE};
        for (int what : wrong) {
            Due.due("state of what " + what, Due.ARGUMENT, () -> x.state(what, 0));
        }
    }
}
