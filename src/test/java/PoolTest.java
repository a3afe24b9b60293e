/** Promises 5 and 6: run and place, of workers of a pool. */
public final class PoolTest {
    public static void main(String[] args) {
        eachEventOnce();
        keepsWhatIsTooFar();
        placeOfAPool();
        haltedWorker();
        poolOnPool();
        twoPoolsApart();
        Due.finish();
    }

    private static void eachEventOnce() {
        RingPipeline x = new RingPipeline(16);
        x.consumer(Make.SUM, 0, Make.IGNORE, 0);
        x.consumer(Make.MEAN, 0, Make.IGNORE, 0);
        Make.publishAll(x, 1, 2, 4, 8, -1, 32);
        Due.due("0 takes one", 1, () -> x.run(0, 1));
        Due.due("1 takes two", 2, () -> x.run(1, 2));
        Due.due("0 takes two, the second ignored", 2, () -> x.run(0, 2));
        Due.due("1 takes the last", 1, () -> x.run(1, 20));
        Due.due("no more for 0", 0, () -> x.run(0, 20));
        Due.due("total of 0", 9L, () -> x.total(0));
        Due.due("mean of 1", 3.0 + (32.0 - 3.0) / 3.0, () -> x.mean(1));
        Due.due("0 handled", 2, () -> x.count(0, 0));
        Due.due("0 ignored", 1, () -> x.count(0, 1));
        Due.due("1 handled", 3, () -> x.count(1, 0));
    }

    private static void keepsWhatIsTooFar() {
        RingPipeline x = new RingPipeline(16);
        x.consumer(Make.SUM, 0, Make.IGNORE, 1);
        x.consumer(Make.SUM, 0, Make.IGNORE, 1);
        Due.due("0 takes event 0", 0, () -> x.run(0, 20));
        Due.due("0 keeps event 0", 0, () -> x.run(0, 20));
        Due.due("1 takes event 1", 0, () -> x.run(1, 1));
        Make.publishAll(x, 1, 2, 4);
        Due.due("1 handles event 1", 1, () -> x.run(1, 1));
        Due.due("1 handles event 2", 1, () -> x.run(1, 1));
        Due.due("total of 1", 6L, () -> x.total(1));
        Due.due("0 handles event 0 and takes event 3", 1, () -> x.run(0, 2));
        Due.due("total of 0", 1L, () -> x.total(0));
    }

    private static void placeOfAPool() {
        RingPipeline x = new RingPipeline(16);
        x.consumer(Make.SUM, 0, Make.IGNORE, 0);
        x.consumer(Make.SUM, 0, Make.IGNORE, 0);
        Due.due("at first", -1L, () -> x.place(1));
        x.run(0, 1);
        Due.due("event 0 is taken", -1L, () -> x.place(1));
        Make.publishAll(x, 1, 2, 3);
        x.run(1, 2);
        Due.due("0 has event 0", -1L, () -> x.place(1));
        x.run(0, 1);
        Due.due("none has one, 2 was taken last", 2L, () -> x.place(0));
        Due.due("the same for all of the pool", 2L, () -> x.place(1));
        x.run(0, 1);
        Due.due("0 has event 3", 2L, () -> x.place(1));
    }

    private static void haltedWorker() {
        RingPipeline x = new RingPipeline(8);
        x.consumer(Make.SUM, 0, Make.HALT, 0);
        x.consumer(Make.SUM, 0, Make.HALT, 0);
        Make.publishAll(x, 7, -1, 5, 6);
        Due.due("0 handles one and halts", 1, () -> x.run(0, 20));
        Due.due("0 halted", 1, () -> x.count(0, 3));
        Due.due("it keeps event 1", 0L, () -> x.place(0));
        Due.due("1 goes on", 2, () -> x.run(1, 20));
        Due.due("the pool does not", 0L, () -> x.place(1));
        Due.due("0 again", Due.STATE, () -> x.run(0, 1));
        Due.due("1 did not halt", 0, () -> x.count(1, 3));
        Due.due("room up to event 0's slot", 4L, () -> x.claim(0, 5));
        Due.due("no room behind it", Due.STATE, () -> x.claim(0, 1));
    }

    private static void poolOnPool() {
        RingPipeline x = new RingPipeline(16);
        x.consumer(Make.SUM, 0, Make.IGNORE, 0);
        x.consumer(Make.SUM, 0, Make.IGNORE, 0);
        x.consumer(Make.SUM, 1, Make.IGNORE, 1);
        x.consumer(Make.SUM, 2, Make.IGNORE, -1);
        x.run(1, 1);
        Make.publishAll(x, 1, 2, 4);
        x.run(0, 20);
        Due.due("pool 1 waits for all of pool 0", 0, () -> x.run(2, 20));
        Due.due("so does one in no pool", 0, () -> x.run(3, 20));
        x.run(1, 1);
        Due.due("pool 1 goes through", 3, () -> x.run(2, 20));
        Due.due("its total", 7L, () -> x.total(2));
        Due.due("the one in no pool too", 3, () -> x.run(3, 20));
    }

    private static void twoPoolsApart() {
        RingPipeline x = new RingPipeline(16);
        x.consumer(Make.SUM, 0, Make.IGNORE, 0);
        x.consumer(Make.SUM, 0, Make.IGNORE, 1);
        Make.publishAll(x, 3, 4);
        Due.due("pool 0 has both", 2, () -> x.run(0, 2));
        Due.due("pool 1 is where it was", -1L, () -> x.place(1));
        Due.due("pool 1 has both", 2, () -> x.run(1, 2));
        Due.due("total of pool 1", 7L, () -> x.total(1));
    }
}
