/** The edges that the policies and promise 14 name: a method for each sentence. */
public final class PolicyEdgesTest {
    public static void main(String[] args) {
        ignore();
        haltBeforeTheEvent();
        standsStill();
        backToWhereItsBatchBegan();
        asItWasThen();
        thirdTime();
        thirdTimeOfARefusedRecord();
        oneAfterTheOther();
        notTwiceInARow();
        eventsThatDoNotCount();
        rewoundAndHalted();
        noSuchWhat();
        Due.finish();
    }

    private static void dueCounts(RingPipeline x, int... due) {
        for (int i = 0; i < due.length; i++) {
            int what = i;
            Due.due("count " + i, due[i], () -> x.count(0, what));
        }
    }

    private static void ignore() {
        Due.sentence("0 IGNORE: it goes on as if the event had been handled");
        RingPipeline x = Make.one(Make.SUM, Make.IGNORE, -1, -1, 5, -1);
        Due.due("the first throws", 1, () -> x.run(0, 1));
        Due.due("its place", 0L, () -> x.place(0));
        Due.due("the others, the last throws", 3, () -> x.run(0, 20));
        Due.due("its place at the end", 3L, () -> x.place(0));
        Due.due("its total", 5L, () -> x.total(0));
        dueCounts(x, 1, 3, 0, 0);
        Due.due("none is left", 0, () -> x.run(0, 20));
    }

    private static void haltBeforeTheEvent() {
        Due.sentence("1 HALT: it stands still from then on, its place before the event");
        for (int i = 0; i < 5; i++) {
            long[] values = {1, 1, 1, 1, 1};
            values[i] = -1;
            int before = i;
            RingPipeline x = Make.one(Make.SUM, Make.HALT, values);
            if (before > 0) {
                Due.due("up to the event", before, () -> x.run(0, before));
                Due.due("not halted yet", 0, () -> x.count(0, 3));
            }
            Due.due("at the event " + i, 0, () -> x.run(0, 20));
            Due.due("its place", i - 1L, () -> x.place(0));
            dueCounts(x, before, 0, 0, 1);
            RingPipeline y = Make.one(Make.SUM, Make.HALT, values);
            Due.due("in one batch", before, () -> y.run(0, 20));
            Due.due("its place in one batch", i - 1L, () -> y.place(0));
            dueCounts(y, before, 0, 0, 1);
        }
    }

    private static void standsStill() {
        Due.sentence("IllegalStateException, when it halted before");
        RingPipeline x = Make.one(Make.SUM, Make.HALT, 4, -1, 6);
        Due.due("it halts", 1, () -> x.run(0, 20));
        for (int i = 1; i <= 20; i++) {
            int m = i;
            Due.due("run with " + i, Due.STATE, () -> x.run(0, m));
        }
        Due.due("its place", 0L, () -> x.place(0));
        Due.due("its total", 4L, () -> x.total(0));
        RingPipeline others = new RingPipeline(8);
        others.consumer(Make.SUM, 0, Make.HALT, -1);
        others.consumer(Make.SMOOTH, 0, Make.HALT, -1);
        others.consumer(Make.SUM, 1, Make.IGNORE, -1);
        Make.publishAll(others, 5, -1, -2);
        others.run(0, 20);
        Due.due("another one has not halted", 1, () -> others.run(1, 1));
        Due.due("what hangs on it goes as far as it did", 1, () -> others.run(2, 20));
        Due.due("and no further", 0, () -> others.run(2, 20));
    }

    private static void backToWhereItsBatchBegan() {
        Due.sentence("2 REWIND (not in a pool): it goes back to where its batch began");
        for (int start = 0; start < 4; start++) {
            for (int at = start; at < 6; at++) {
                dueBack(start, at);
            }
        }
    }

    /** A batch that begins behind some events and meets a throw at one; then one that ends before it. */
    private static void dueBack(int start, int at) {
        long[] values = {1, 2, 4, 8, 16, 32, 64};
        values[at] = -1;
        RingPipeline x = Make.one(Make.SUM, Make.REWIND, values);
        if (start > 0) {
            Due.due("the batch before", start, () -> x.run(0, start));
        }
        Due.due("a batch from " + start + " that throws at " + at, -1, () -> x.run(0, 20));
        Due.due("its place", start - 1L, () -> x.place(0));
        Due.due("its total", (1L << start) - 1, () -> x.total(0));
        dueCounts(x, start, 0, 1, 0);
        if (at > start) {
            Due.due("a batch that ends before " + at, at - start, () -> x.run(0, at - start));
            Due.due("its total then", (1L << at) - 1, () -> x.total(0));
            Due.due("its place then", at - 1L, () -> x.place(0));
        }
    }

    private static void asItWasThen() {
        Due.sentence("everything that its handler has (totals, levels, bytes, numbers) is as it was then");
        RingPipeline x = new RingPipeline(16);
        for (int kind = 0; kind < 4; kind++) {
            x.consumer(kind, 0, Make.REWIND, -1);
        }
        Make.publishAll(x, 8, 4, 12, -1);
        for (int i = 0; i < 4; i++) {
            int kind = i;
            Due.due("rewound to nothing, kind " + i, -1, () -> x.run(kind, 20));
            Due.due("total of kind " + i, 0L, () -> x.total(kind));
        }
        Due.due("level of nothing", 0f, () -> x.level(1));
        Due.due("mean of nothing", 0.0, () -> x.mean(2));
        Due.due("no byte", Due.INDEX, () -> x.octet(3, 0));
        for (int i = 0; i < 4; i++) {
            int kind = i;
            Due.due("one, kind " + i, 1, () -> x.run(kind, 1));
            Due.due("rewound to one, kind " + i, -1, () -> x.run(kind, 20));
        }
        Due.due("total of one", 8L, () -> x.total(0));
        Due.due("level of one", 2f, () -> x.level(1));
        Due.due("mean of one", 8.0, () -> x.mean(2));
        Due.due("the last byte of one", 21, () -> x.octet(3, 12));
        Due.due("no byte behind it", Due.INDEX, () -> x.octet(3, 13));
        x.run(2, 1);
        Due.due("n is two with the next", 6.0, () -> x.mean(2));
    }

    private static void thirdTime() {
        Due.sentence("at the third time that this happens at the same sequence, it goes on as IGNORE instead");
        RingPipeline x = Make.one(Make.MEAN, Make.REWIND, 2, -5, 4);
        Due.due("the first time", -1, () -> x.run(0, 20));
        dueCounts(x, 0, 0, 1, 0);
        Due.due("the second time", -1, () -> x.run(0, 20));
        dueCounts(x, 0, 0, 2, 0);
        Due.due("the third time", 3, () -> x.run(0, 20));
        dueCounts(x, 2, 1, 2, 0);
        Due.due("its place", 2L, () -> x.place(0));
        Due.due("its mean", 3.0, () -> x.mean(0));
        RingPipeline first = Make.one(Make.SUM, Make.REWIND, -1);
        Due.due("the very first event, once", -1, () -> first.run(0, 1));
        Due.due("the very first event, twice", -1, () -> first.run(0, 1));
        Due.due("the very first event, thrice", 1, () -> first.run(0, 1));
        Due.due("it is through with it", 0L, () -> first.place(0));
    }

    private static void thirdTimeOfARefusedRecord() {
        Due.sentence("when a record would be longer than what is left, the handler throws (REWIND)");
        RingPipeline x = new RingPipeline(16);
        x.consumer(Make.JOURNAL, 0, Make.REWIND, -1);
        for (int i = 0; i < 30; i++) {
            Make.publishAll(x, i);
            x.run(0, 1);
        }
        Make.publishAll(x, 30);
        Due.due("full, the first time", -1, () -> x.run(0, 1));
        Due.due("full, the second time", -1, () -> x.run(0, 1));
        Due.due("full, the third time", 1, () -> x.run(0, 1));
        Due.due("the bytes of thirty", 390L, () -> x.total(0));
        dueCounts(x, 30, 1, 2, 0);
    }

    private static void oneAfterTheOther() {
        Due.sentence("one after the other");
        RingPipeline x = Make.one(Make.SUM, Make.REWIND, 1, -1, 2, -1);
        Due.due("the first at 1", -1, () -> x.run(0, 20));
        Due.due("the second at 1", -1, () -> x.run(0, 20));
        Due.due("the third at 1 goes on, the first at 3 does not", -1, () -> x.run(0, 20));
        Due.due("the place of the batch", -1L, () -> x.place(0));
        dueCounts(x, 0, 0, 3, 0);
        Due.due("3 came between, so the first at 1", -1, () -> x.run(0, 20));
        Due.due("the second at 1 since", -1, () -> x.run(0, 20));
        Due.due("the third at 1 since, and no more than it", 2, () -> x.run(0, 2));
        Due.due("1 came between, so the first at 3", -1, () -> x.run(0, 20));
        Due.due("the second at 3", -1, () -> x.run(0, 20));
        Due.due("the third at 3", 2, () -> x.run(0, 20));
        dueCounts(x, 2, 2, 7, 0);
        Due.due("its total", 3L, () -> x.total(0));
    }

    /** Batches that go well lie between two throws at a sequence; no other throw does. */
    private static void notTwiceInARow() {
        Due.sentence("one after the other (batches that go well between)");
        RingPipeline x = Make.one(Make.SUM, Make.REWIND, 1, 2, -1, 4, -1);
        Due.due("the first at 2", -1, () -> x.run(0, 20));
        Due.due("0 goes well", 1, () -> x.run(0, 1));
        Due.due("the second at 2", -1, () -> x.run(0, 20));
        Due.due("1 goes well", 1, () -> x.run(0, 1));
        Due.due("the third at 2", 1, () -> x.run(0, 1));
        Due.due("3 goes well", 1, () -> x.run(0, 1));
        Due.due("the first at 4", -1, () -> x.run(0, 1));
        Due.due("the second at 4", -1, () -> x.run(0, 1));
        Due.due("the third at 4", 1, () -> x.run(0, 1));
        dueCounts(x, 3, 2, 4, 0);
    }

    private static void eventsThatDoNotCount() {
        Due.sentence("What was handled and ignored before a rewind in its batch does not count");
        RingPipeline x = Make.one(Make.SUM, Make.REWIND, 1, -1, 2, 4, -1, 8);
        Due.due("the first at 1", -1, () -> x.run(0, 20));
        Due.due("the second at 1", -1, () -> x.run(0, 20));
        Due.due("the third at 1, in a batch of its own", 2, () -> x.run(0, 2));
        dueCounts(x, 1, 1, 2, 0);
        Due.due("2 and 3 are handled before 4 throws", -1, () -> x.run(0, 20));
        dueCounts(x, 1, 1, 3, 0);
        Due.due("what was ignored in the batch before stays", 1L, () -> x.place(0));
        Due.due("two that go well", 2, () -> x.run(0, 2));
        dueCounts(x, 3, 1, 3, 0);
        Due.due("4 throws at once", -1, () -> x.run(0, 20));
        dueCounts(x, 3, 1, 4, 0);
        Due.due("the third at 4 goes on to the end", 2, () -> x.run(0, 20));
        dueCounts(x, 4, 2, 4, 0);
    }

    private static void rewoundAndHalted() {
        Due.sentence("how often it was rewound (2), 1 when it halted, else 0 (3)");
        RingPipeline x = new RingPipeline(8);
        for (int policy = 0; policy < 3; policy++) {
            x.consumer(Make.SUM, 0, policy, -1);
        }
        Make.publishAll(x, -1);
        int[] answers = {1, 0, -1};
        int[][] due = {{0, 1, 0, 0}, {0, 0, 0, 1}, {0, 0, 1, 0}};
        for (int i = 0; i < 3; i++) {
            int policy = i;
            for (int j = 0; j < 4; j++) {
                int what = j;
                Due.due("count " + j + " of policy " + i + " before", 0, () -> x.count(policy, what));
            }
            Due.due("run of policy " + i, answers[i], () -> x.run(policy, 1));
            for (int j = 0; j < 4; j++) {
                int what = j;
                Due.due("count " + j + " of policy " + i, due[i][j], () -> x.count(policy, what));
            }
        }
    }

    private static void noSuchWhat() {
        Due.sentence("IllegalArgumentException, when there is no such consumer or what");
        RingPipeline x = Make.one(Make.SUM, Make.IGNORE, 5);
        int[] others = {-1, 4, 5, Integer.MIN_VALUE, Integer.MAX_VALUE};
        for (int what : others) {
            Due.due("what " + what, Due.ARGUMENT, () -> x.count(0, what));
        }
        int[] noConsumers = {-1, 1, 7, 8, Integer.MIN_VALUE, Integer.MAX_VALUE};
        for (int consumer : noConsumers) {
            for (int i = 0; i < 4; i++) {
                int what = i;
                Due.due("what " + i + " of " + consumer, Due.ARGUMENT, () -> x.count(consumer, what));
            }
            Due.due("neither, " + consumer, Due.ARGUMENT, () -> x.count(consumer, 4));
        }
        dueCounts(x, 0, 0, 0, 0);
    }
}
