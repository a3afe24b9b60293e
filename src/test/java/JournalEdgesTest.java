/** The edges that "A JOURNAL", "A RECORD", "REPLAYING" and promises 10 to 13 name. */
public final class JournalEdgesTest {
    private static final int RECORD = 13;

    public static void main(String[] args) {
        longerThanWhatIsLeft();
        fullJournalThatHalts();
        twoBytesOfTheSequence();
        eightBytesOfTheValue();
        theProducer();
        lowestByteOfTheSum();
        thirteenBytes();
        firstIsThirteen();
        lastIsRight();
        theRestIsTorn();
        noSuchByte();
        zeroToTheBytes();
        consumerIsNone();
        noneWasReplayed();
        sumThatWraps();
        whatWasReplayedLast();
        Due.finish();
    }

    /** A JOURNAL at 0 that ignores, with room for 13 events at a time. */
    private static RingPipeline journal(long... values) {
        RingPipeline x = Make.one(Make.JOURNAL, Make.IGNORE, values);
        x.run(0, 20);
        return x;
    }

    private static void write(RingPipeline x, long value) {
        Make.publishAll(x, value);
        x.run(0, 1);
    }

    private static RingPipeline journalOf(int bytes) {
        RingPipeline x = journal();
        while (x.total(0) < bytes) {
            write(x, 7);
        }
        x.tear(0, (int) x.total(0) - bytes);
        return x;
    }

    private static void dueBytes(RingPipeline x, int from, int... due) {
        for (int i = 0; i < due.length; i++) {
            int at = from + i;
            Due.due("byte " + at, due[i], () -> x.octet(0, at));
        }
    }

    private static void longerThanWhatIsLeft() {
        Due.sentence("A JOURNAL has at most 400 bytes; when a record would be longer than what is left, "
                + "the handler throws");
        for (int i = 370; i <= 390; i++) {
            int bytes = i;
            RingPipeline x = journalOf(bytes);
            write(x, 9);
            boolean fits = bytes + RECORD <= 400;
            Due.due("a record behind " + bytes, bytes + (fits ? 13L : 0L), () -> x.total(0));
            Due.due("ignored", fits ? 0 : 1, () -> x.count(0, 1));
        }
        RingPipeline full = journalOf(387);
        write(full, 9);
        write(full, 9);
        Due.due("400 and no more", 400L, () -> full.total(0));
        Due.due("the last of them", (13 + 9 + 30) & 0xFF, () -> full.octet(0, 399));
    }

    private static void fullJournalThatHalts() {
        Due.sentence("the handler throws (a full journal, HALT)");
        RingPipeline x = Make.one(Make.JOURNAL, Make.HALT);
        for (int i = 0; i < 30; i++) {
            Make.publishAll(x, i);
            int number = i;
            Due.due("record " + number, 1, () -> x.run(0, 1));
        }
        Make.publishAll(x, 30);
        Due.due("the thirty-first", 0, () -> x.run(0, 1));
        Due.due("it halted", 1, () -> x.count(0, 3));
        Due.due("its place", 29L, () -> x.place(0));
        x.tear(0, 390);
        Due.due("room comes too late", Due.STATE, () -> x.run(0, 1));
    }

    private static void twoBytesOfTheSequence() {
        Due.sentence("the lowest two bytes of the sequence, the high one first");
        RingPipeline x = journal();
        while (x.state(0, 0) < 251) {
            long first = x.claim(0, 12);
            for (int i = 0; i < 12; i++) {
                x.publish(0, first + i, -1);
            }
            x.run(0, 20);
        }
        Make.publishAll(x, -1, -1, 0, 0, 0, 0);
        Due.due("252 to 257", 6, () -> x.run(0, 20));
        dueBytes(x, 0, 13, 0, 254);
        dueBytes(x, 13, 13, 0, 255);
        dueBytes(x, 26, 13, 1, 0);
        dueBytes(x, 39, 13, 1, 1);
        Due.due("all are right", 4, () -> x.replay(0));
    }

    private static void eightBytesOfTheValue() {
        Due.sentence("eight bytes of the value, the highest first");
        RingPipeline x = journal(0, 255, 256, Long.MAX_VALUE, 0x0102030405060708L, 1L << 56);
        dueBytes(x, 3, 0, 0, 0, 0, 0, 0, 0, 0);
        dueBytes(x, 16, 0, 0, 0, 0, 0, 0, 0, 255);
        dueBytes(x, 29, 0, 0, 0, 0, 0, 0, 1, 0);
        dueBytes(x, 42, 127, 255, 255, 255, 255, 255, 255, 255);
        dueBytes(x, 55, 1, 2, 3, 4, 5, 6, 7, 8);
        dueBytes(x, 68, 1, 0, 0, 0, 0, 0, 0, 0);
        Due.due("all are right", 6, () -> x.replay(0));
    }

    private static void theProducer() {
        Due.sentence("the producer");
        RingPipeline x = journal();
        for (int i = 0; i < 4; i++) {
            x.publish(i, x.claim(i, 1), 0);
        }
        Due.due("all four", 4, () -> x.run(0, 20));
        for (int i = 0; i < 4; i++) {
            dueBytes(x, RECORD * i, 13, 0, i);
            dueBytes(x, RECORD * i + 11, i, 13 + i + i);
        }
    }

    private static void lowestByteOfTheSum() {
        Due.sentence("the lowest byte of the sum of the twelve bytes before");
        long[] values = {241, 242, 243, 255 + (255L << 8)};
        int[] due = {254, 255, 0, (13 + 255 + 255) & 0xFF};
        for (int i = 0; i < values.length; i++) {
            RingPipeline x = journal(values[i]);
            Due.due("sum of " + values[i], due[i], () -> x.octet(0, 12));
            Due.due("it is right", 1, () -> x.replay(0));
        }
    }

    private static void thirteenBytes() {
        Due.sentence("record by record, as long as there are 13 bytes");
        for (int i = 0; i <= 40; i++) {
            int bytes = i;
            RingPipeline x = journalOf(bytes);
            Due.due("records in " + bytes + " bytes", bytes / RECORD, () -> x.replay(0));
            Due.due("their sum", 7L * (bytes / RECORD), x::replayed);
        }
        RingPipeline lost = journal(243);
        Due.due("its last byte is 0", 0, () -> lost.octet(0, 12));
        lost.tear(0, 1);
        Due.due("a byte that is lost is not a 0", 0, () -> lost.replay(0));
        RingPipeline full = journalOf(390);
        Due.due("records in 390 bytes", 30, () -> full.replay(0));
        RingPipeline more = journalOf(387);
        write(more, 9);
        Due.due("records in 400 bytes, the thirtieth torn", 29, () -> more.replay(0));
    }

    /** The sum of a record with only zeros in it is 13: it stands in for the next record's first byte. */
    private static void firstIsThirteen() {
        Due.sentence("the first is 13");
        RingPipeline right = journal(0, 127);
        Due.due("both begin with 13", 2, () -> right.replay(0));
        RingPipeline wrong = journal(0);
        wrong.tear(0, 1);
        write(wrong, 127);
        write(wrong, 5);
        dueBytes(wrong, 12, 13, 0, 1, 0, 0, 0, 0, 0, 0, 0, 127, 0, 141, 13);
        Due.due("the second begins with 0, though its last is right", 1, () -> wrong.replay(0));
        Due.due("the sum of the first", 0L, wrong::replayed);
    }

    private static void lastIsRight() {
        Due.sentence("and the last one is right");
        RingPipeline right = journal(12, 300);
        Due.due("both are right", 2, () -> right.replay(0));
        RingPipeline wrong = journal(12);
        Due.due("the last one would have been 25", 25, () -> wrong.octet(0, 12));
        wrong.tear(0, 1);
        write(wrong, 300);
        dueBytes(wrong, 12, 13);
        Due.due("it is 13", 0, () -> wrong.replay(0));
        Due.due("the sum of none", 0L, wrong::replayed);
    }

    private static void theRestIsTorn() {
        Due.sentence("the rest is TORN");
        RingPipeline x = journal(100, 20, 3);
        x.tear(0, 5);
        write(x, 50);
        write(x, 60);
        Due.due("three whole and one torn record lie there", 60L, () -> x.total(0));
        Due.due("what comes behind a torn one is torn", 2, () -> x.replay(0));
        Due.due("the sum of two", 120L, x::replayed);
        x.tear(0, 21);
        write(x, 70);
        dueBytes(x, 39, 13, 0, 5);
        Due.due("even where the thirteen bytes of a record would begin", 2, () -> x.replay(0));
        Due.due("the sum of two again", 120L, x::replayed);
        x.tear(0, 26);
        write(x, 4);
        Due.due("what comes behind a right one is right", 3, () -> x.replay(0));
        Due.due("the sum of three", 124L, x::replayed);
    }

    private static void noSuchByte() {
        Due.sentence("IndexOutOfBoundsException, when there is no such byte");
        RingPipeline x = journal();
        Due.due("0 of none", Due.INDEX, () -> x.octet(0, 0));
        write(x, 7);
        dueBytes(x, 0, 13);
        dueBytes(x, 12, 20);
        int[] others = {-1, 13, 14, 399, 400, 401, Integer.MIN_VALUE, Integer.MAX_VALUE};
        for (int i : others) {
            Due.due("byte " + i + " of 13", Due.INDEX, () -> x.octet(0, i));
        }
        x.tear(0, 1);
        dueBytes(x, 11, 0);
        Due.due("byte 12 of 12", Due.INDEX, () -> x.octet(0, 12));
        RingPipeline full = journalOf(387);
        write(full, 0);
        Due.due("byte 399 of 400", 43, () -> full.octet(0, 399));
        Due.due("byte 400 of 400", Due.INDEX, () -> full.octet(0, 400));
    }

    private static void zeroToTheBytes() {
        Due.sentence("or n is not 0 .. the number of its bytes");
        RingPipeline empty = journal();
        Due.due("0 of none", 0, () -> empty.tear(0, 0));
        Due.due("1 of none", Due.ARGUMENT, () -> empty.tear(0, 1));
        Due.due("-1 of none", Due.ARGUMENT, () -> empty.tear(0, -1));
        for (int i = 0; i <= 26; i++) {
            int n = i;
            RingPipeline x = journal(1, 2);
            Due.due(n + " of 26", 26 - n, () -> x.tear(0, n));
            Due.due("its bytes", 26L - n, () -> x.total(0));
            Due.due("one more than it has", Due.ARGUMENT, () -> x.tear(0, 27 - n));
            Due.due("all that it has", 0, () -> x.tear(0, 26 - n));
        }
        int[] others = {-1, 27, 400, 401, Integer.MIN_VALUE, Integer.MAX_VALUE};
        RingPipeline y = journal(1, 2);
        for (int n : others) {
            Due.due(n + " of 26", Due.ARGUMENT, () -> y.tear(0, n));
        }
        Due.due("none was lost", 26L, () -> y.total(0));
        RingPipeline full = journalOf(387);
        write(full, 0);
        Due.due("401 of 400", Due.ARGUMENT, () -> full.tear(0, 401));
        Due.due("400 of 400", 0, () -> full.tear(0, 400));
    }

    private static void consumerIsNone() {
        Due.sentence("IllegalArgumentException, when the consumer is none (octet, tear, replay)");
        RingPipeline x = new RingPipeline(8);
        int[] kinds = {Make.SUM, Make.SMOOTH, Make.MEAN, Make.JOURNAL};
        for (int kind : kinds) {
            x.consumer(kind, 0, Make.IGNORE, -1);
        }
        Make.publishAll(x, 6);
        x.run(3, 1);
        int[] others = {-1, 0, 1, 2, 4, 7, 8, Integer.MIN_VALUE, Integer.MAX_VALUE};
        for (int consumer : others) {
            Due.due("octet of " + consumer, Due.ARGUMENT, () -> x.octet(consumer, 0));
            Due.due("no byte of " + consumer, Due.ARGUMENT, () -> x.octet(consumer, -1));
            Due.due("tear of " + consumer, Due.ARGUMENT, () -> x.tear(consumer, 0));
            Due.due("replay of " + consumer, Due.ARGUMENT, () -> x.replay(consumer));
        }
        Due.due("octet of 3", 13, () -> x.octet(3, 0));
        Due.due("tear of 3", 13, () -> x.tear(3, 0));
        Due.due("replay of 3", 1, () -> x.replay(3));
    }

    private static void noneWasReplayed() {
        Due.sentence("The sum of their values is REPLAYED then; 0 at first");
        RingPipeline x = journal(5);
        Due.due("at first", 0L, x::replayed);
        Due.due("one record", 1, () -> x.replay(0));
        Due.due("its sum", 5L, x::replayed);
        x.tear(0, 13);
        Due.due("until it is replayed again", 5L, x::replayed);
        Due.due("no record", 0, () -> x.replay(0));
        Due.due("the sum of none", 0L, x::replayed);
    }

    private static void sumThatWraps() {
        Due.sentence("The sum of their values (it wraps)");
        RingPipeline fits = journal(Long.MAX_VALUE - 1, 1);
        fits.replay(0);
        Due.due("the greatest", Long.MAX_VALUE, fits::replayed);
        RingPipeline wraps = journal(Long.MAX_VALUE, 1);
        wraps.replay(0);
        Due.due("one more", Long.MIN_VALUE, wraps::replayed);
        RingPipeline twice = journal(Long.MAX_VALUE, Long.MAX_VALUE, 2);
        twice.replay(0);
        Due.due("all the way round", 0L, twice::replayed);
    }

    private static void whatWasReplayedLast() {
        Due.sentence("What was replayed last");
        RingPipeline x = new RingPipeline(8);
        x.consumer(Make.JOURNAL, 0, Make.IGNORE, -1);
        x.consumer(Make.JOURNAL, 0, Make.IGNORE, -1);
        x.consumer(Make.SUM, 0, Make.IGNORE, -1);
        Make.publishAll(x, 1, 2);
        x.run(0, 2);
        x.run(1, 1);
        x.replay(0);
        Due.due("of 0", 3L, x::replayed);
        x.replay(1);
        Due.due("of 1", 1L, x::replayed);
        Due.due("of one that is none", Due.ARGUMENT, () -> x.replay(2));
        Due.due("still of 1", 1L, x::replayed);
        x.replay(0);
        Due.due("of 0 again", 3L, x::replayed);
    }
}
