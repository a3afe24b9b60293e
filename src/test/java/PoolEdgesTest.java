/** The edges that the pools' sentences under "HOW FAR" and "RUNNING" name, with promises 5 and 6. */
public final class PoolEdgesTest {
    public static void main(String[] args) {
        zeroAtFirst();
        eachToOneWorker();
        mTimesAtMost();
        notFurtherThanItMayGo();
        keepsIt();
        beforeTheLeastEvent();
        latestThatWasTaken();
        meantIsThePoolsPlace();
        poolBehindAConsumer();
        keepsItForEver();
        ignoringWorker();
        roundTheRing();
        Due.finish();
    }

    /** A ring of 16 with workers of pool 0 that sum and ignore. */
    private static RingPipeline workers(int n) {
        RingPipeline x = new RingPipeline(16);
        for (int i = 0; i < n; i++) {
            x.consumer(Make.SUM, 0, Make.IGNORE, 0);
        }
        return x;
    }

    private static void zeroAtFirst() {
        Due.sentence("it takes the next one of the pool's (0 at first)");
        RingPipeline x = workers(2);
        Make.publishAll(x, 5, 7);
        Due.due("the first run", 1, () -> x.run(1, 1));
        Due.due("it had event 0", 5L, () -> x.total(1));
        Due.due("the second run", 1, () -> x.run(0, 1));
        Due.due("it had event 1", 7L, () -> x.total(0));
    }

    private static void eachToOneWorker() {
        Due.sentence("each one goes to one worker");
        RingPipeline x = workers(8);
        for (int i = 0; i < 16; i++) {
            Make.publishAll(x, 1L << i);
        }
        for (int i = 0; i < 16; i++) {
            int worker = 7 - i % 8;
            Due.due("worker " + worker, 1, () -> x.run(worker, 1));
        }
        for (int i = 0; i < 8; i++) {
            int worker = i;
            Due.due("total of " + i, (1L << 7 - i) + (1L << 15 - i), () -> x.total(worker));
            Due.due("handled by " + i, 2, () -> x.count(worker, 0));
            Due.due("none is left for " + i, 0, () -> x.run(worker, 20));
        }
    }

    private static void mTimesAtMost() {
        Due.sentence("Running a WORKER of a pool, m times at most");
        RingPipeline x = workers(2);
        Make.publishAll(x, 1, 2, 4);
        Due.due("m 3 of three", 3, () -> x.run(0, 3));
        Make.publishAll(x, 8);
        Due.due("0 took none beyond, so 1 has the next", 1, () -> x.run(1, 1));
        Due.due("its total", 8L, () -> x.total(1));
        RingPipeline y = workers(2);
        Make.publishAll(y, 1, 2, 4);
        Due.due("m 4 of three", 3, () -> y.run(0, 4));
        Make.publishAll(y, 8);
        Due.due("0 took the next, so 1 has none", 0, () -> y.run(1, 1));
        Due.due("0 has it", 1, () -> y.run(0, 1));
        Due.due("its total", 15L, () -> y.total(0));
        for (int i = 1; i <= 20; i++) {
            int m = i;
            RingPipeline z = workers(1);
            for (int j = 0; j < 16; j++) {
                Make.publishAll(z, 1);
            }
            Due.due("m " + i + " of sixteen", Math.min(m, 16), () -> z.run(0, m));
        }
        Due.due("m 0", Due.ARGUMENT, () -> x.run(0, 0));
        Due.due("m 21", Due.ARGUMENT, () -> x.run(0, 21));
    }

    private static void notFurtherThanItMayGo() {
        Due.sentence("if that is not further than it may go, it handles it, and has none then");
        RingPipeline x = workers(2);
        x.claim(0, 3);
        x.publish(0, 1, 2);
        Due.due("0 takes event 0, which is not published", 0, () -> x.run(0, 1));
        Due.due("1 takes event 1, which is published but not available", 0, () -> x.run(1, 1));
        x.publish(0, 0, 1);
        Due.due("event 1 is the last available", 1, () -> x.run(1, 1));
        Due.due("event 2 is one further", 0, () -> x.run(1, 1));
        Due.due("event 0 is before", 1, () -> x.run(0, 1));
        x.publish(0, 2, 4);
        Due.due("1 still has event 2", 1, () -> x.run(1, 1));
        Due.due("total of 0", 1L, () -> x.total(0));
        Due.due("total of 1", 6L, () -> x.total(1));
    }

    private static void keepsIt() {
        Due.sentence("else it keeps it, and that is the end");
        RingPipeline x = workers(2);
        for (int i = 1; i <= 20; i++) {
            int m = i;
            Due.due("0 waits for event 0", 0, () -> x.run(0, m));
        }
        Due.due("1 waits for event 1", 0, () -> x.run(1, 20));
        Make.publishAll(x, 1, 2, 4, 8);
        Due.due("1 has event 1, then 2", 2, () -> x.run(1, 2));
        Due.due("0 has event 0, then 3, then none", 2, () -> x.run(0, 20));
        Due.due("total of 1", 6L, () -> x.total(1));
        Due.due("total of 0", 9L, () -> x.total(0));
    }

    private static void beforeTheLeastEvent() {
        Due.sentence("the pool's place: the one before the least event that a worker has");
        RingPipeline x = workers(3);
        x.run(0, 1);
        Due.due("0 has event 0", -1L, () -> x.place(0));
        x.run(1, 1);
        x.run(2, 1);
        Due.due("0, 1 and 2 have events 0, 1 and 2", -1L, () -> x.place(2));
        Make.publishAll(x, 1, 2, 4, 8);
        Due.due("1 handles event 1", 1, () -> x.run(1, 1));
        Due.due("0 has event 0 still", -1L, () -> x.place(1));
        Due.due("0 handles event 0", 1, () -> x.run(0, 1));
        Due.due("2 has event 2", 1L, () -> x.place(0));
        Due.due("0 handles event 3, and takes 4", 1, () -> x.run(0, 2));
        Due.due("2 has event 2 still", 1L, () -> x.place(0));
        Due.due("2 handles event 2", 1, () -> x.run(2, 1));
        for (int i = 0; i < 3; i++) {
            int worker = i;
            Due.due("0 has event 4, asked of " + i, 3L, () -> x.place(worker));
        }
    }

    private static void latestThatWasTaken() {
        Due.sentence("or, when none has one, the latest that was taken (-1 at first)");
        RingPipeline x = workers(2);
        Due.due("at first", -1L, () -> x.place(0));
        Make.publishAll(x, 1, 2, 4);
        Due.due("published alone moves nothing", -1L, () -> x.place(0));
        for (int i = 0; i < 3; i++) {
            int worker = i % 2;
            Due.due("event " + i, 1, () -> x.run(worker, 1));
            Due.due("none has one, " + i + " was taken", (long) i, () -> x.place(0));
            Due.due("the same of the other", (long) i, () -> x.place(1));
        }
        Due.due("no pool's worker beyond", Due.ARGUMENT, () -> x.place(2));
    }

    private static void meantIsThePoolsPlace() {
        Due.sentence("of one in a pool, the pool's place is meant");
        RingPipeline x = workers(2);
        x.consumer(Make.SUM, 1, Make.IGNORE, -1);
        x.consumer(Make.SUM, 2, Make.IGNORE, 1);
        x.run(1, 1);
        Make.publishAll(x, 1, 2, 4, 8);
        Due.due("0 handles 1 to 3", 3, () -> x.run(0, 3));
        Due.due("1 has event 0, and 2 hangs on 0", 0, () -> x.run(2, 20));
        Due.due("1 has event 0, and 3 hangs on 1", 0, () -> x.run(3, 20));
        Due.due("1 handles event 0", 1, () -> x.run(1, 1));
        Due.due("2 may go to 3", 4, () -> x.run(2, 20));
        Due.due("3 may go to 3", 4, () -> x.run(3, 20));
        Make.publishAll(x, 16, 32);
        Due.due("1 handles 4", 1, () -> x.run(1, 1));
        Due.due("2 may go to 4", 1, () -> x.run(2, 20));
        Due.due("3 may go to 4", 1, () -> x.run(3, 20));
    }

    private static void poolBehindAConsumer() {
        Due.sentence("HOW FAR: no further than the least place of those on which it hangs (a worker)");
        RingPipeline x = new RingPipeline(8);
        x.consumer(Make.SUM, 0, Make.IGNORE, -1);
        x.consumer(Make.SUM, 1, Make.IGNORE, 1);
        x.consumer(Make.SUM, 1, Make.IGNORE, 1);
        Make.publishAll(x, 1, 2, 4);
        Due.due("0 has handled none", 0, () -> x.run(1, 20));
        Due.due("0 handles two", 2, () -> x.run(0, 2));
        Due.due("2 takes event 1, and keeps 2", 1, () -> x.run(2, 20));
        Due.due("1 handles event 0, and keeps 3", 1, () -> x.run(1, 20));
        Due.due("their place", 1L, () -> x.place(1));
        Due.due("0 handles the third", 1, () -> x.run(0, 1));
        Due.due("1 waits for 3", 0, () -> x.run(1, 20));
        Due.due("2 handles 2", 1, () -> x.run(2, 1));
        Due.due("their place then", 2L, () -> x.place(2));
    }

    private static void keepsItForEver() {
        Due.sentence("A worker that halts keeps its event for ever");
        RingPipeline x = new RingPipeline(4);
        x.consumer(Make.SUM, 0, Make.HALT, 0);
        x.consumer(Make.SUM, 0, Make.IGNORE, 0);
        x.consumer(Make.SUM, 1, Make.IGNORE, -1);
        Make.publishAll(x, 1, -1, 4, 8);
        Due.due("0 handles event 0 and halts at 1", 1, () -> x.run(0, 20));
        Due.due("it halted", 1, () -> x.count(0, 3));
        Due.due("it handled", 1, () -> x.count(0, 0));
        Due.due("it ignored", 0, () -> x.count(0, 1));
        Due.due("it runs no more", Due.STATE, () -> x.run(0, 1));
        Due.due("1 handles the others", 2, () -> x.run(1, 20));
        Due.due("1 did not halt", 0, () -> x.run(1, 1));
        Due.due("the pool's place", 0L, () -> x.place(1));
        Due.due("what hangs on it goes that far", 1, () -> x.run(2, 20));
        Due.due("and no further", 0, () -> x.run(2, 20));
        Due.due("room for two is not there", Due.STATE, () -> x.claim(0, 2));
        Due.due("room for one is", 4L, () -> x.claim(0, 1));
        Due.due("and for no more", Due.STATE, () -> x.claim(0, 1));
    }

    private static void ignoringWorker() {
        Due.sentence("Running a WORKER: how many events it handled or ignored");
        RingPipeline x = workers(2);
        Make.publishAll(x, -1, -1, 3);
        Due.due("one ignored", 1, () -> x.run(0, 1));
        Due.due("one ignored, one handled", 2, () -> x.run(1, 20));
        Due.due("0 ignored", 1, () -> x.count(0, 1));
        Due.due("1 ignored", 1, () -> x.count(1, 1));
        Due.due("1 handled", 1, () -> x.count(1, 0));
        Due.due("none is left to 0", 0, () -> x.run(0, 20));
        Due.due("the pool's place", 2L, () -> x.place(0));
    }

    private static void roundTheRing() {
        Due.sentence("sequence s lies in slot s modulo the slots (workers)");
        RingPipeline x = new RingPipeline(4);
        x.consumer(Make.SUM, 0, Make.IGNORE, 1);
        x.consumer(Make.SUM, 0, Make.IGNORE, 1);
        for (int i = 0; i < 40; i++) {
            int worker = i % 2;
            long sequence = i;
            Due.due("claim " + i, sequence, () -> x.claim(0, 1));
            x.publish(0, i, i);
            Due.due("run " + i, 1, () -> x.run(worker, 1));
            Due.due("place " + i, sequence, () -> x.place(1 - worker));
        }
        Due.due("the even ones", 380L, () -> x.total(0));
        Due.due("the odd ones", 400L, () -> x.total(1));
    }
}
