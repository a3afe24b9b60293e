/** The edges that the kinds and promises 7, 8 and 9 name: a method for each sentence. */
public final class KindEdgesTest {
    private static final String[] NAMES = {"SUM", "SMOOTH", "MEAN", "JOURNAL"};

    public static void main(String[] args) {
        sumWraps();
        smoothFromZero();
        valueAsAFloat();
        meanFromZero();
        valueAsADouble();
        howManyItHandled();
        sumThrows();
        othersThrow();
        throwsChangeNothing();
        totalOfOthers();
        noSuchConsumer();
        noSmooth();
        noMean();
        Due.finish();
    }

    /** One consumer that ignores, through with these values. */
    private static RingPipeline through(int kind, long... values) {
        RingPipeline x = Make.one(kind, Make.IGNORE, values);
        x.run(0, 20);
        return x;
    }

    /** Kind k at number k, with no event. */
    private static RingPipeline ofEachKind() {
        RingPipeline x = new RingPipeline(8);
        for (int kind = 0; kind < 4; kind++) {
            x.consumer(kind, 0, Make.IGNORE, -1);
        }
        return x;
    }

    private static void dueTotal(long due, long... values) {
        RingPipeline x = through(Make.SUM, values);
        Due.due("total of " + java.util.Arrays.toString(values), due, () -> x.total(0));
    }

    private static void sumWraps() {
        Due.sentence("its total (a long) grows by v, and wraps");
        dueTotal(Long.MAX_VALUE, Long.MAX_VALUE - 1, 1);
        dueTotal(Long.MIN_VALUE, Long.MAX_VALUE, 1);
        dueTotal(-2, Long.MAX_VALUE, Long.MAX_VALUE);
        dueTotal(Long.MIN_VALUE, Long.MIN_VALUE + 2, -2);
        dueTotal(Long.MAX_VALUE, Long.MIN_VALUE + 1, -2);
        dueTotal(0, Long.MIN_VALUE, Long.MIN_VALUE);
        dueTotal(1L << 32, (1L << 32) - 1, 1);
    }

    private static void smoothFromZero() {
        Due.sentence("its level (a float, 0 at first) becomes level + (x - level) * 0.25f");
        RingPipeline x = Make.one(Make.SMOOTH, Make.IGNORE, 0, 1, 0);
        Due.due("at first", 0f, () -> x.level(0));
        x.run(0, 1);
        Due.due("behind a 0", 0f, () -> x.level(0));
        x.run(0, 1);
        Due.due("behind a 1", 0.25f, () -> x.level(0));
        x.run(0, 1);
        Due.due("behind a 0 again", 0.1875f, () -> x.level(0));
    }

    private static void dueLevel(float due, long... values) {
        RingPipeline x = through(Make.SMOOTH, values);
        Due.due("level of " + java.util.Arrays.toString(values), due, () -> x.level(0));
    }

    private static void valueAsAFloat() {
        Due.sentence("x being v as a float");
        dueLevel(4194304f, 1L << 24);
        dueLevel(4194304f, (1L << 24) + 1);
        dueLevel(4194304.5f, (1L << 24) + 2);
        dueLevel(2.305843009213694E18f, Long.MAX_VALUE);
        dueLevel(4194304f + (5f - 4194304f) * 0.25f, 1L << 24, 5);
        dueLevel(0.75f + (16777220f - 0.75f) * 0.25f, 3, 16777219);
    }

    private static void meanFromZero() {
        Due.sentence("its mean (a double, 0 at first) becomes mean + (y - mean) / n");
        RingPipeline x = Make.one(Make.MEAN, Make.IGNORE, 0, 1, 3);
        Due.due("at first", 0.0, () -> x.mean(0));
        x.run(0, 1);
        Due.due("behind a 0", 0.0, () -> x.mean(0));
        x.run(0, 1);
        Due.due("behind a 1", 0.5, () -> x.mean(0));
        x.run(0, 1);
        Due.due("behind a 3", 0.5 + 2.5 / 3.0, () -> x.mean(0));
    }

    private static void dueMean(double due, long... values) {
        RingPipeline x = through(Make.MEAN, values);
        Due.due("mean of " + java.util.Arrays.toString(values), due, () -> x.mean(0));
    }

    private static void valueAsADouble() {
        Due.sentence("y being v as a double");
        dueMean(9007199254740992.0, 1L << 53);
        dueMean(9007199254740992.0, (1L << 53) + 1);
        dueMean(9007199254740994.0, (1L << 53) + 2);
        dueMean(16777217.0, (1L << 24) + 1);
        dueMean(9.223372036854775807E18, Long.MAX_VALUE);
    }

    private static void howManyItHandled() {
        Due.sentence("n how many events it handled, with this one");
        dueMean(7.0, 7);
        dueMean(7.0, -1, 7);
        dueMean(6.0, -1, 7, -2, 5);
        dueMean(4.0, 7, 5, Long.MIN_VALUE, 0);
    }

    private static void dueThrows(int kind, long value, boolean due) {
        String call = NAMES[kind] + " of " + value;
        RingPipeline ignores = through(kind, value);
        Due.due(call + " handled", due ? 0 : 1, () -> ignores.count(0, 0));
        Due.due(call + " ignored", due ? 1 : 0, () -> ignores.count(0, 1));
        RingPipeline halts = Make.one(kind, Make.HALT, value);
        Due.due(call + " run", due ? 0 : 1, () -> halts.run(0, 1));
        Due.due(call + " halted", due ? 1 : 0, () -> halts.count(0, 3));
    }

    private static void sumThrows() {
        Due.sentence("SUM throws, when v is -1 exactly");
        dueThrows(Make.SUM, -1, true);
        long[] others = {-2, 0, 1, -3, Long.MIN_VALUE, Long.MAX_VALUE, 0xFFFFFFFFL, -1L << 32};
        for (long value : others) {
            dueThrows(Make.SUM, value, false);
        }
    }

    private static void othersThrow() {
        Due.sentence("All but SUM THROW, when v is below 0");
        long[] below = {-1, -2, Long.MIN_VALUE, -1L << 32};
        long[] others = {0, 1, Long.MAX_VALUE, 0xFFFFFFFFL, 0x80000000L};
        for (int kind = 1; kind < 4; kind++) {
            for (long value : below) {
                dueThrows(kind, value, true);
            }
            for (long value : others) {
                dueThrows(kind, value, false);
            }
        }
    }

    private static void throwsChangeNothing() {
        Due.sentence("What throws changes nothing");
        RingPipeline x = ofEachKind();
        Make.publishAll(x, 8, -1, -1);
        for (int i = 0; i < 4; i++) {
            int kind = i;
            Due.due(NAMES[i], 3, () -> x.run(kind, 20));
        }
        Due.due("total", 8L, () -> x.total(0));
        Due.due("level", 2f, () -> x.level(1));
        Due.due("mean", 8.0, () -> x.mean(2));
        Due.due("bytes", 13L, () -> x.total(3));
        Due.due("no byte behind them", Due.INDEX, () -> x.octet(3, 13));
        Due.due("records", 1, () -> x.replay(3));
    }

    private static void totalOfOthers() {
        Due.sentence("The total of a SUM, how many bytes a JOURNAL has, 0 for others");
        RingPipeline x = ofEachKind();
        for (int i = 0; i < 4; i++) {
            int kind = i;
            Due.due(NAMES[i] + " at first", 0L, () -> x.total(kind));
        }
        Make.publishAll(x, 9, 1);
        for (int kind = 0; kind < 4; kind++) {
            x.run(kind, 20);
        }
        long[] due = {10, 0, 0, 26};
        for (int i = 0; i < 4; i++) {
            int kind = i;
            Due.due(NAMES[i], due[i], () -> x.total(kind));
        }
    }

    private static void noSuchConsumer() {
        Due.sentence("IllegalArgumentException, when there is no such consumer");
        RingPipeline none = new RingPipeline(8);
        Due.due("0 where there is none", Due.ARGUMENT, () -> none.total(0));
        RingPipeline x = ofEachKind();
        int[] others = {-1, 4, 7, 8, Integer.MIN_VALUE, Integer.MAX_VALUE};
        for (int consumer : others) {
            Due.due("total of " + consumer, Due.ARGUMENT, () -> x.total(consumer));
        }
        Due.due("total of the last", 0L, () -> x.total(3));
        RingPipeline eight = new RingPipeline(8);
        for (int i = 0; i < 8; i++) {
            eight.consumer(Make.SUM, 0, Make.IGNORE, -1);
        }
        Due.due("total of 7, where there are eight", 0L, () -> eight.total(7));
        Due.due("total of 8, where there are eight", Due.ARGUMENT, () -> eight.total(8));
    }

    private static void noSmooth() {
        Due.sentence("The level of a SMOOTH. IllegalArgumentException, when it is none");
        RingPipeline x = ofEachKind();
        Due.due("a SMOOTH", 0f, () -> x.level(1));
        int[] others = {0, 2, 3, -1, 4, 8, Integer.MIN_VALUE, Integer.MAX_VALUE};
        for (int consumer : others) {
            Due.due("level of " + consumer, Due.ARGUMENT, () -> x.level(consumer));
        }
    }

    private static void noMean() {
        Due.sentence("The mean of a MEAN. IllegalArgumentException, when it is none");
        RingPipeline x = ofEachKind();
        Due.due("a MEAN", 0.0, () -> x.mean(2));
        int[] others = {0, 1, 3, -1, 4, 8, Integer.MIN_VALUE, Integer.MAX_VALUE};
        for (int consumer : others) {
            Due.due("mean of " + consumer, Due.ARGUMENT, () -> x.mean(consumer));
        }
    }
}
