/** Promises 10 to 13: octet, tear, replay and replayed. */
public final class JournalTest {
    private static final int[] NO_JOURNALS = {-1, 0, 2, 8, Integer.MIN_VALUE, Integer.MAX_VALUE};

    public static void main(String[] args) {
        record();
        sequenceOfTwoBytes();
        wrongArguments();
        tearing();
        recordBehindATear();
        wrongFirstByte();
        wrongLastByte();
        lostLastByte();
        replaying();
        full();
        Due.finish();
    }

    /** A SUM at 0 and a JOURNAL at 1, through with these values. */
    private static RingPipeline journal(long... values) {
        RingPipeline x = new RingPipeline(16);
        x.consumer(Make.SUM, 0, Make.IGNORE, -1);
        x.consumer(Make.JOURNAL, 0, Make.IGNORE, -1);
        Make.publishAll(x, values);
        x.run(1, 20);
        return x;
    }

    private static void dueBytes(RingPipeline x, int from, int... due) {
        for (int i = 0; i < due.length; i++) {
            int at = from + i;
            Due.due("byte " + at, due[i], () -> x.octet(1, at));
        }
    }

    private static void record() {
        RingPipeline x = new RingPipeline(16);
        x.consumer(Make.SUM, 0, Make.IGNORE, -1);
        x.consumer(Make.JOURNAL, 0, Make.IGNORE, -1);
        x.claim(0, 1);
        x.claim(3, 1);
        x.publish(0, 0, 0);
        x.publish(3, 1, 0x7FEDCBA987654321L);
        x.run(1, 20);
        dueBytes(x, 0, 13, 0, 0, 0, 0, 0, 0, 0, 0, 0, 0, 0, 13);
        int sum = 13 + 1 + 0x7F + 0xED + 0xCB + 0xA9 + 0x87 + 0x65 + 0x43 + 0x21 + 3;
        dueBytes(x, 13, 13, 0, 1, 0x7F, 0xED, 0xCB, 0xA9, 0x87, 0x65, 0x43, 0x21, 3, sum & 0xFF);
        Due.due("two records", 2, () -> x.replay(1));
        Due.due("their sum", 0x7FEDCBA987654321L, x::replayed);
    }

    private static void sequenceOfTwoBytes() {
        RingPipeline x = new RingPipeline(16);
        x.consumer(Make.SUM, 0, Make.IGNORE, 0);
        x.consumer(Make.JOURNAL, 0, Make.IGNORE, -1);
        for (int i = 0; i < 259; i += 7) {
            long first = x.claim(0, 7);
            for (int j = 0; j < 7; j++) {
                x.publish(0, first + j, -1);
            }
            x.run(0, 7);
            x.run(1, 7);
        }
        Make.publishAll(x, 2);
        x.run(1, 1);
        dueBytes(x, 0, 13, 1, 3, 0, 0, 0, 0, 0, 0, 0, 2, 0, 19);
    }

    private static void wrongArguments() {
        RingPipeline x = journal(1, 2);
        for (int consumer : NO_JOURNALS) {
            Due.due("octet of " + consumer, Due.ARGUMENT, () -> x.octet(consumer, 0));
            Due.due("octet 99 of " + consumer, Due.ARGUMENT, () -> x.octet(consumer, 99));
            Due.due("tear of " + consumer, Due.ARGUMENT, () -> x.tear(consumer, 0));
            Due.due("replay of " + consumer, Due.ARGUMENT, () -> x.replay(consumer));
        }
        int[] noBytes = {-1, 26, 399, 400, Integer.MIN_VALUE, Integer.MAX_VALUE};
        for (int i : noBytes) {
            Due.due("octet " + i, Due.INDEX, () -> x.octet(1, i));
        }
        Due.due("the last byte", 13 + 1 + 2, () -> x.octet(1, 25));
        int[] wrongTears = {-1, 27, 400, Integer.MIN_VALUE, Integer.MAX_VALUE};
        for (int n : wrongTears) {
            Due.due("tear " + n, Due.ARGUMENT, () -> x.tear(1, n));
        }
        Due.due("all bytes are there", 26L, () -> x.total(1));
        RingPipeline empty = journal();
        Due.due("no byte at first", Due.INDEX, () -> empty.octet(1, 0));
        Due.due("nothing to tear", 0, () -> empty.tear(1, 0));
        Due.due("one too many", Due.ARGUMENT, () -> empty.tear(1, 1));
        Due.due("no record", 0, () -> empty.replay(1));
    }

    private static void tearing() {
        RingPipeline x = journal(100, 20, 3);
        Due.due("none", 39, () -> x.tear(1, 0));
        Due.due("all records", 3, () -> x.replay(1));
        Due.due("one byte", 38, () -> x.tear(1, 1));
        Due.due("the byte is gone", Due.INDEX, () -> x.octet(1, 38));
        Due.due("the torn one is none", 2, () -> x.replay(1));
        Due.due("sum of two", 120L, x::replayed);
        Due.due("down to the end of the second", 26, () -> x.tear(1, 12));
        Due.due("two still", 2, () -> x.replay(1));
        Due.due("into the second", 14, () -> x.tear(1, 12));
        Due.due("one", 1, () -> x.replay(1));
        Due.due("sum of one", 100L, x::replayed);
        Due.due("all the rest", 0, () -> x.tear(1, 14));
        Due.due("no record", 0, () -> x.replay(1));
        Due.due("sum of none", 0L, x::replayed);
        Due.due("what was handled stays", 3, () -> x.count(1, 0));
    }

    private static void recordBehindATear() {
        RingPipeline x = journal(100, 20);
        x.tear(1, 13);
        Make.publishAll(x, 7);
        x.run(1, 1);
        dueBytes(x, 13, 13, 0, 2);
        Due.due("a record behind a whole one", 2, () -> x.replay(1));
        Due.due("its sum", 107L, x::replayed);
        x.tear(1, 2);
        Make.publishAll(x, 9);
        x.run(1, 1);
        Due.due("a record comes behind the bytes", 37L, () -> x.total(1));
        dueBytes(x, 24, 13, 0, 3);
        Due.due("but is torn", 1, () -> x.replay(1));
        Due.due("and so not in the sum", 100L, x::replayed);
    }

    /**
     * The torn record's sum would have been 13, which is how the next one begins; so the second
     * stretch of 13 bytes begins with a 0, and its sum is right, too, by the choice of 127.
     */
    private static void wrongFirstByte() {
        RingPipeline x = journal(0);
        x.tear(1, 1);
        Make.publishAll(x, 127, 5);
        x.run(1, 20);
        Due.due("bytes of a torn one and two", 38L, () -> x.total(1));
        dueBytes(x, 12, 13, 0, 1, 0, 0, 0, 0, 0, 0, 0, 127, 0, 13 + 128, 13);
        Due.due("the first is right again, the second not", 1, () -> x.replay(1));
        Due.due("the sum of the first", 0L, x::replayed);
    }

    /** 243 makes the sum 256, whose lowest byte is 0: what is lost must not be read as a 0. */
    private static void lostLastByte() {
        RingPipeline x = journal(243);
        dueBytes(x, 12, 0);
        Due.due("it is whole", 1, () -> x.replay(1));
        x.tear(1, 1);
        Due.due("it is torn", 0, () -> x.replay(1));
        Due.due("the sum of none", 0L, x::replayed);
    }

    private static void wrongLastByte() {
        RingPipeline x = journal(256);
        x.tear(1, 12);
        Make.publishAll(x, 13, 14);
        x.run(1, 20);
        Due.due("a byte and two records", 27L, () -> x.total(1));
        Due.due("no record is right", 0, () -> x.replay(1));
        Due.due("the sum of none", 0L, x::replayed);
    }

    private static void replaying() {
        RingPipeline x = new RingPipeline(16);
        x.consumer(Make.JOURNAL, 0, Make.IGNORE, -1);
        x.consumer(Make.JOURNAL, 0, Make.IGNORE, -1);
        x.consumer(Make.SUM, 0, Make.IGNORE, -1);
        Make.publishAll(x, Long.MAX_VALUE, 5, 6);
        x.run(0, 2);
        Due.due("nothing was replayed", 0L, x::replayed);
        Due.due("two records", 2, () -> x.replay(0));
        Due.due("the sum wraps", Long.MIN_VALUE + 4, x::replayed);
        Due.due("no journal", Due.ARGUMENT, () -> x.replay(2));
        Due.due("the sum stays", Long.MIN_VALUE + 4, x::replayed);
        x.run(1, 20);
        Due.due("three records", 3, () -> x.replay(1));
        Due.due("the sum of the last replay", Long.MIN_VALUE + 10, x::replayed);
        x.run(0, 20);
        Due.due("only a replay changes it", Long.MIN_VALUE + 10, x::replayed);
    }

    private static void full() {
        RingPipeline x = new RingPipeline(16);
        x.consumer(Make.SUM, 0, Make.IGNORE, 0);
        x.consumer(Make.JOURNAL, 0, Make.IGNORE, -1);
        for (int i = 0; i < 30; i++) {
            Make.publishAll(x, i);
            x.run(0, 1);
            x.run(1, 1);
        }
        Due.due("thirty fit", 390L, () -> x.total(1));
        Make.publishAll(x, 30, 31);
        x.run(0, 2);
        Due.due("one more is ignored", 1, () -> x.run(1, 1));
        Due.due("ignored", 1, () -> x.count(1, 1));
        Due.due("no byte of it", 390L, () -> x.total(1));
        Due.due("room for 13 exactly", 387, () -> x.tear(1, 3));
        x.run(1, 1);
        Due.due("all bytes used", 400L, () -> x.total(1));
        Due.due("the last byte", (13 + 31 + 31) & 0xFF, () -> x.octet(1, 399));
        Due.due("no byte behind", Due.INDEX, () -> x.octet(1, 400));
        Due.due("records before the tear", 29, () -> x.replay(1));
    }
}
