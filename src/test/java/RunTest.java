/** Promise 5: run, of consumers that are in no pool. */
public final class RunTest {
    public static void main(String[] args) {
        wrongArguments();
        batches();
        howFar();
        ignore();
        halt();
        rewind();
        rewindAtTwoPlaces();
        rewindOfEachKind();
        journalThatIsFull();
        Due.finish();
    }

    private static void wrongArguments() {
        RingPipeline x = Make.one(Make.SUM, Make.HALT, -1);
        int[] wrongNumbers = {0, -1, 21, Integer.MIN_VALUE, Integer.MAX_VALUE};
        for (int m : wrongNumbers) {
            Due.due("m " + m, Due.ARGUMENT, () -> x.run(0, m));
        }
        int[] wrongConsumers = {-1, 1, 8, Integer.MIN_VALUE, Integer.MAX_VALUE};
        for (int consumer : wrongConsumers) {
            Due.due("consumer " + consumer, Due.ARGUMENT, () -> x.run(consumer, 1));
        }
        Due.due("it halts", 0, () -> x.run(0, 20));
        Due.due("it halted before", Due.STATE, () -> x.run(0, 1));
        Due.due("wrong m, and it halted", Due.ARGUMENT, () -> x.run(0, 0));
    }

    private static void batches() {
        RingPipeline x = Make.one(Make.SUM, Make.IGNORE, 1, 2, 4, 8, 16);
        Due.due("one", 1, () -> x.run(0, 1));
        Due.due("its total", 1L, () -> x.total(0));
        Due.due("three", 3, () -> x.run(0, 3));
        Due.due("their total", 15L, () -> x.total(0));
        Due.due("the last one", 1, () -> x.run(0, 20));
        Due.due("no more", 0, () -> x.run(0, 20));
        Due.due("each once", 31L, () -> x.total(0));
        for (int i = 0; i < 15; i++) {
            Make.publishAll(x, 1);
        }
        Due.due("all fifteen", 15, () -> x.run(0, 20));
        Due.due("across the end of the ring", 46L, () -> x.total(0));
    }

    private static void howFar() {
        RingPipeline x = new RingPipeline(8);
        x.consumer(0, 0, 0, -1);
        x.consumer(0, 0, 0, -1);
        x.consumer(0, 3, 0, -1);
        x.consumer(0, 4, 0, -1);
        x.claim(0, 5);
        x.publish(0, 0, 1);
        x.publish(0, 1, 2);
        x.publish(0, 3, 8);
        Due.due("2 has none to follow", 0, () -> x.run(2, 5));
        Due.due("up to the last available", 2, () -> x.run(0, 5));
        Due.due("1 is at -1 still", 0, () -> x.run(2, 5));
        x.run(1, 1);
        Due.due("no further than the least", 1, () -> x.run(2, 5));
        x.run(1, 1);
        Due.due("3 follows 2, not 1", 1, () -> x.run(3, 5));
        x.publish(0, 2, 4);
        Due.due("all that is available now", 2, () -> x.run(0, 5));
        Due.due("but 2 not", 1, () -> x.run(2, 5));
    }

    private static void ignore() {
        RingPipeline x = Make.one(Make.SMOOTH, Make.IGNORE, 4, -1, -5, Long.MIN_VALUE, 8);
        Due.due("ignored ones count", 5, () -> x.run(0, 20));
        Due.due("the level", 2.75f, () -> x.level(0));
        Due.due("handled", 2, () -> x.count(0, 0));
        Due.due("ignored", 3, () -> x.count(0, 1));
        Due.due("place", 4L, () -> x.place(0));
    }

    private static void halt() {
        RingPipeline x = Make.one(Make.SUM, Make.HALT, 4, 5, -1, 6);
        Due.due("the two before", 2, () -> x.run(0, 20));
        Due.due("place before the event", 1L, () -> x.place(0));
        Due.due("total of the two", 9L, () -> x.total(0));
        Due.due("handled", 2, () -> x.count(0, 0));
        Due.due("ignored", 0, () -> x.count(0, 1));
        Due.due("halted", 1, () -> x.count(0, 3));
        Due.due("again", Due.STATE, () -> x.run(0, 20));
    }

    private static void rewind() {
        RingPipeline x = Make.one(Make.SUM, Make.REWIND, 1, 2, -1, 4, -1);
        Due.due("one alone", 1, () -> x.run(0, 1));
        Due.due("first time at 2", -1, () -> x.run(0, 20));
        Due.due("place where the batch began", 0L, () -> x.place(0));
        Due.due("total as it was then", 1L, () -> x.total(0));
        Due.due("handled as it was then", 1, () -> x.count(0, 0));
        Due.due("up to the event", 1, () -> x.run(0, 1));
        Due.due("second time at 2", -1, () -> x.run(0, 1));
        Due.due("third time at 2", 1, () -> x.run(0, 1));
        Due.due("ignored", 1, () -> x.count(0, 1));
        Due.due("rewound", 2, () -> x.count(0, 2));
        Due.due("first time at 4", -1, () -> x.run(0, 20));
        Due.due("second time at 4", -1, () -> x.run(0, 20));
        Due.due("third time at 4", 2, () -> x.run(0, 20));
        Due.due("total of all that were handled", 7L, () -> x.total(0));
        Due.due("all rewinds", 4, () -> x.count(0, 2));
        Due.due("never halted", 0, () -> x.count(0, 3));
    }

    /** A rewind at a later event undoes what was ignored in the batch, and begins a new count. */
    private static void rewindAtTwoPlaces() {
        RingPipeline x = Make.one(Make.MEAN, Make.REWIND, 6, -2, 8, -3);
        Due.due("first at 1", -1, () -> x.run(0, 20));
        Due.due("second at 1", -1, () -> x.run(0, 20));
        Due.due("third at 1 is ignored, first at 3", -1, () -> x.run(0, 20));
        Due.due("nothing ignored counts", 0, () -> x.count(0, 1));
        Due.due("place", -1L, () -> x.place(0));
        Due.due("first at 1 since 3", -1, () -> x.run(0, 20));
        Due.due("second at 1 since 3", -1, () -> x.run(0, 20));
        Due.due("third at 1 since 3, in a batch that ends there", 2, () -> x.run(0, 2));
        Due.due("first at 3 since 1", -1, () -> x.run(0, 20));
        Due.due("second at 3 since 1", -1, () -> x.run(0, 20));
        Due.due("third at 3 since 1", 2, () -> x.run(0, 20));
        Due.due("rewound", 7, () -> x.count(0, 2));
        Due.due("mean", 7.0, () -> x.mean(0));
    }

    private static void rewindOfEachKind() {
        RingPipeline x = new RingPipeline(16);
        for (int kind = 0; kind < 4; kind++) {
            x.consumer(kind, 0, Make.REWIND, -1);
        }
        Make.publishAll(x, 8, 4, -1, 1);
        for (int kind = 0; kind < 4; kind++) {
            int k = kind;
            Due.due("one of kind " + k, 1, () -> x.run(k, 1));
            Due.due("rewound, kind " + k, -1, () -> x.run(k, 20));
            Due.due("again, kind " + k, -1, () -> x.run(k, 20));
        }
        Due.due("total", 8L, () -> x.total(0));
        Due.due("level", 2f, () -> x.level(1));
        Due.due("mean", 8.0, () -> x.mean(2));
        Due.due("bytes", 13L, () -> x.total(3));
        for (int kind = 0; kind < 4; kind++) {
            int k = kind;
            Due.due("through, kind " + k, 3, () -> x.run(k, 20));
        }
        Due.due("total behind it", 13L, () -> x.total(0));
        Due.due("level behind it", 2.125f, () -> x.level(1));
        Due.due("mean behind it", 6.0 + (1.0 - 6.0) / 3.0, () -> x.mean(2));
        Due.due("bytes behind it", 39L, () -> x.total(3));
        Due.due("records behind it", 3, () -> x.replay(3));
    }

    private static void journalThatIsFull() {
        RingPipeline x = new RingPipeline(16);
        x.consumer(Make.JOURNAL, 0, Make.REWIND, -1);
        for (int i = 0; i < 29; i++) {
            Make.publishAll(x, i);
            x.run(0, 1);
        }
        Make.publishAll(x, 29, 30, 31);
        Due.due("the thirtieth fits, the next does not", -1, () -> x.run(0, 20));
        Due.due("bytes as they were", 377L, () -> x.total(0));
        x.tear(0, 13);
        Due.due("room for one more, so now at 31", -1, () -> x.run(0, 20));
        Due.due("bytes as they were behind the tear", 364L, () -> x.total(0));
        Due.due("second at 31", -1, () -> x.run(0, 20));
        Due.due("third at 31", 3, () -> x.run(0, 20));
        Due.due("it is full", 390L, () -> x.total(0));
    }
}
