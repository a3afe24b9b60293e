import java.util.function.Function;
import java.util.function.Supplier;

/** A call of which the document says that it throws changes nothing, seen or to be seen later. */
public final class RefusedCallTest {
    private static Supplier<RingPipeline> make;

    public static void main(String[] args) {
        Due.sentence("IllegalArgumentException and IllegalStateException, of consumer");
        consumersAtFirst();
        consumersWhereThereAreEight();
        Due.sentence("the exceptions of all calls");
        make = RefusedCallTest::inTheMiddle;
        consumersBehindAClaim();
        claims();
        publishings();
        runs();
        answers();
        Due.finish();
    }

    private static void refused(String call, Object due, Function<RingPipeline, ?> made) {
        Seen.refused(call, due, make, made);
    }

    private static RingPipeline oneSum() {
        RingPipeline x = new RingPipeline(4);
        x.consumer(Make.SUM, 0, Make.IGNORE, -1);
        return x;
    }

    private static RingPipeline eightSums() {
        RingPipeline x = new RingPipeline(4);
        for (int i = 0; i < 8; i++) {
            x.consumer(Make.SUM, 0, Make.IGNORE, -1);
        }
        return x;
    }

    /**
     * One that halted, one that was rewound twice at 2, a pool whose first worker has an event, and a
     * JOURNAL that was replayed; 6 and 7 are claimed and not published.
     */
    private static RingPipeline inTheMiddle() {
        RingPipeline x = new RingPipeline(8);
        x.consumer(Make.SUM, 0, Make.HALT, -1);
        x.consumer(Make.MEAN, 0, Make.REWIND, -1);
        x.consumer(Make.SMOOTH, 0, Make.IGNORE, 0);
        x.consumer(Make.SUM, 0, Make.IGNORE, 0);
        x.consumer(Make.JOURNAL, 4, Make.IGNORE, -1);
        x.run(2, 1);
        Make.publishAll(x, 10, 20, -1, 40);
        x.claim(1, 2);
        x.publish(1, 4, 50);
        x.publish(1, 5, 60);
        x.claim(2, 1);
        x.claim(3, 1);
        x.run(0, 20);
        x.run(1, 20);
        x.run(1, 20);
        x.run(2, 2);
        x.run(3, 1);
        x.run(4, 2);
        x.replay(4);
        x.run(3, 20);
        return x;
    }

    private static void consumersAtFirst() {
        make = RefusedCallTest::oneSum;
        refused("wrong kind", Due.ARGUMENT, x -> x.consumer(4, 1, 0, 0));
        refused("hangs on itself", Due.ARGUMENT, x -> x.consumer(0, 3, 0, 0));
        refused("wrong policy", Due.ARGUMENT, x -> x.consumer(0, 1, 3, 0));
        refused("REWIND in pool 0", Due.ARGUMENT, x -> x.consumer(0, 1, 2, 0));
        refused("REWIND in pool 1", Due.ARGUMENT, x -> x.consumer(0, 1, 2, 1));
        refused("wrong pool", Due.ARGUMENT, x -> x.consumer(0, 1, 0, 2));
        make = RefusedCallTest::oneSumAndAPool;
        refused("on others than the first", Due.ARGUMENT, x -> x.consumer(0, 3, 0, 0));
    }

    private static RingPipeline oneSumAndAPool() {
        RingPipeline x = oneSum();
        x.consumer(Make.SUM, 0, Make.IGNORE, 0);
        return x;
    }

    private static void consumersWhereThereAreEight() {
        make = RefusedCallTest::eightSums;
        refused("a ninth", Due.STATE, x -> x.consumer(0, 0, 0, -1));
        refused("a ninth that hangs on all", Due.STATE, x -> x.consumer(0, 255, 0, -1));
        refused("a ninth in a pool", Due.STATE, x -> x.consumer(0, 1, 0, 0));
        refused("a ninth that is wrong", Due.ARGUMENT, x -> x.consumer(0, 256, 0, 1));
    }

    private static void consumersBehindAClaim() {
        refused("behind a claim", Due.STATE, x -> x.consumer(0, 0, 0, -1));
        refused("behind a claim, on others", Due.STATE, x -> x.consumer(3, 31, 1, -1));
        refused("behind a claim, in a pool", Due.STATE, x -> x.consumer(0, 0, 0, 0));
        refused("behind a claim, in a new pool", Due.STATE, x -> x.consumer(0, 1, 0, 1));
    }

    private static void claims() {
        refused("no producer", Due.ARGUMENT, x -> x.claim(4, 1));
        refused("none", Due.ARGUMENT, x -> x.claim(0, 0));
        refused("too many", Due.ARGUMENT, x -> x.claim(0, 9));
        refused("no room", Due.STATE, x -> x.claim(0, 3));
        refused("no room for all", Due.STATE, x -> x.claim(0, 8));
    }

    private static void publishings() {
        refused("published", Due.ELEMENT, x -> x.publish(0, 0, 99));
        refused("published by another", Due.ELEMENT, x -> x.publish(2, 5, 99));
        refused("another's", Due.ELEMENT, x -> x.publish(3, 6, 99));
        refused("no producer", Due.ELEMENT, x -> x.publish(4, 6, 99));
        refused("behind the cursor", Due.ELEMENT, x -> x.publish(2, 8, 99));
        refused("a lap behind", Due.ELEMENT, x -> x.publish(2, 14, 99));
        refused("below 0", Due.ELEMENT, x -> x.publish(2, -2, 99));
    }

    private static void runs() {
        refused("halted", Due.STATE, x -> x.run(0, 1));
        refused("halted, wrong m", Due.ARGUMENT, x -> x.run(0, 21));
        for (int i = 1; i < 5; i++) {
            int consumer = i;
            refused("m 0 of " + i, Due.ARGUMENT, x -> x.run(consumer, 0));
            refused("m 21 of " + i, Due.ARGUMENT, x -> x.run(consumer, 21));
        }
        refused("no consumer", Due.ARGUMENT, x -> x.run(5, 1));
        refused("no consumer below", Due.ARGUMENT, x -> x.run(-1, 1));
    }

    private static void answers() {
        refused("place", Due.ARGUMENT, x -> x.place(5));
        refused("total", Due.ARGUMENT, x -> x.total(5));
        refused("level", Due.ARGUMENT, x -> x.level(4));
        refused("mean", Due.ARGUMENT, x -> x.mean(4));
        refused("octet of none", Due.ARGUMENT, x -> x.octet(0, 0));
        refused("octet behind the last", Due.INDEX, x -> x.octet(4, 26));
        refused("tear of none", Due.ARGUMENT, x -> x.tear(0, 0));
        refused("tear of too many", Due.ARGUMENT, x -> x.tear(4, 27));
        refused("tear of less than none", Due.ARGUMENT, x -> x.tear(4, -1));
        refused("replay of none", Due.ARGUMENT, x -> x.replay(3));
        refused("count", Due.ARGUMENT, x -> x.count(4, 4));
        refused("state", Due.ARGUMENT, x -> x.state(3, 0));
        refused("state below 0", Due.ARGUMENT, x -> x.state(2, -1));
    }
}
