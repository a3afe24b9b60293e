/** The edges that "CONSUMERS" and promise 2 name: a method for each sentence. */
public final class ConsumerEdgesTest {
    public static void main(String[] args) {
        kinds();
        othersThanThereAre();
        policies();
        pools();
        rewindInAPool();
        othersThanTheFirstOfItsPool();
        thereAreEight();
        somethingWasClaimed();
        bothThatCouldBeThrown();
        asItIsMade();
        Due.finish();
    }

    private static RingPipeline withConsumers(int n) {
        RingPipeline x = new RingPipeline(8);
        for (int i = 0; i < n; i++) {
            x.consumer(Make.SUM, 0, Make.IGNORE, Make.NONE);
        }
        return x;
    }

    private static void kinds() {
        Due.sentence("IllegalArgumentException, when kind is not 0 .. 3");
        for (int i = 0; i <= 3; i++) {
            int kind = i;
            RingPipeline x = withConsumers(0);
            Due.due("kind " + i, 0, () -> x.consumer(kind, 0, 0, -1));
        }
        int[] others = {-1, 4, -4, Integer.MIN_VALUE, Integer.MAX_VALUE};
        for (int kind : others) {
            RingPipeline x = withConsumers(0);
            Due.due("kind " + kind, Due.ARGUMENT, () -> x.consumer(kind, 0, 0, -1));
            Due.due("it has no number", 0, () -> x.consumer(0, 0, 0, -1));
        }
    }

    private static void othersThanThereAre() {
        Due.sentence("on has others than the ones that there are");
        for (int i = 0; i < 8; i++) {
            int made = i;
            RingPipeline x = withConsumers(made);
            for (int bit = made; bit < 32; bit++) {
                int on = 1 << bit;
                Due.due("bit " + bit + " of " + made, Due.ARGUMENT, () -> x.consumer(0, on, 0, -1));
                int more = on | (1 << made) - 1;
                Due.due("bit " + bit + " and all " + made, Due.ARGUMENT, () -> x.consumer(0, more, 0, -1));
            }
            Due.due("all " + made, made, () -> x.consumer(0, (1 << made) - 1, 0, -1));
        }
        for (int i = 0; i < 7; i++) {
            int on = 1 << i;
            RingPipeline x = withConsumers(7);
            Due.due("bit " + i + " of 7", 7, () -> x.consumer(0, on, 0, -1));
        }
    }

    private static void policies() {
        Due.sentence("policy is not 0 .. 2");
        for (int i = 0; i <= 2; i++) {
            int policy = i;
            RingPipeline x = withConsumers(0);
            Due.due("policy " + i, 0, () -> x.consumer(0, 0, policy, -1));
        }
        int[] others = {-1, 3, Integer.MIN_VALUE, Integer.MAX_VALUE};
        for (int policy : others) {
            RingPipeline x = withConsumers(0);
            Due.due("policy " + policy, Due.ARGUMENT, () -> x.consumer(0, 0, policy, -1));
            Due.due("policy " + policy + " in a pool", Due.ARGUMENT, () -> x.consumer(0, 0, policy, 0));
        }
    }

    private static void pools() {
        Due.sentence("pool is not -1 .. 1");
        for (int i = -1; i <= 1; i++) {
            int pool = i;
            RingPipeline x = withConsumers(0);
            Due.due("pool " + i, 0, () -> x.consumer(0, 0, 0, pool));
        }
        int[] others = {-2, 2, Integer.MIN_VALUE, Integer.MAX_VALUE};
        for (int pool : others) {
            RingPipeline x = withConsumers(0);
            Due.due("pool " + pool, Due.ARGUMENT, () -> x.consumer(0, 0, 0, pool));
        }
    }

    private static void rewindInAPool() {
        Due.sentence("it is REWIND in a pool");
        for (int i = 0; i <= 1; i++) {
            int pool = i;
            RingPipeline x = withConsumers(0);
            Due.due("REWIND as the first of " + i, Due.ARGUMENT, () -> x.consumer(0, 0, Make.REWIND, pool));
            Due.due("HALT as the first of " + i, 0, () -> x.consumer(0, 0, Make.HALT, pool));
            Due.due("REWIND as the next of " + i, Due.ARGUMENT, () -> x.consumer(0, 0, Make.REWIND, pool));
            Due.due("IGNORE as the next of " + i, 1, () -> x.consumer(0, 0, Make.IGNORE, pool));
            Due.due("REWIND in none", 2, () -> x.consumer(0, 0, Make.REWIND, -1));
        }
    }

    private static void othersThanTheFirstOfItsPool() {
        Due.sentence("or it hangs on others than the first one of its pool");
        for (int first = 0; first < 8; first++) {
            for (int next = 0; next < 16; next++) {
                dueInPool(first, next);
            }
        }
        RingPipeline x = withConsumers(2);
        x.consumer(0, 1, 0, 0);
        Due.due("the first of pool 1 may hang on others", 3, () -> x.consumer(0, 2, 0, 1));
        Due.due("the next of pool 0 as its own first", 4, () -> x.consumer(0, 1, 0, 0));
        Due.due("the next of pool 1 as its own first", 5, () -> x.consumer(0, 2, 0, 1));
        Due.due("the next of pool 1 as the first of pool 0", Due.ARGUMENT, () -> x.consumer(0, 1, 0, 1));
        Due.due("one in no pool is free", 6, () -> x.consumer(0, 63, 0, -1));
    }

    private static void dueInPool(int first, int next) {
        RingPipeline x = withConsumers(3);
        x.consumer(0, first, 0, 0);
        Object due = first == next ? (Object) 4 : Due.ARGUMENT;
        Due.due("on " + next + " where the first is on " + first, due, () -> x.consumer(0, next, 1, 0));
    }

    private static void thereAreEight() {
        Due.sentence("IllegalStateException, when there are eight");
        RingPipeline x = withConsumers(7);
        Due.due("the eighth", 7, () -> x.consumer(0, 0, 0, -1));
        Due.due("the ninth", Due.STATE, () -> x.consumer(0, 0, 0, -1));
        Due.due("the ninth on all eight", Due.STATE, () -> x.consumer(0, 255, 0, -1));
        Due.due("the ninth in a pool", Due.STATE, () -> x.consumer(0, 0, 0, 0));
        Due.due("the eighth is there", -1L, () -> x.place(7));
        Due.due("the ninth is not", Due.ARGUMENT, () -> x.place(8));
        RingPipeline pool = new RingPipeline(8);
        for (int i = 0; i < 8; i++) {
            int number = i;
            Due.due("worker " + i, number, () -> pool.consumer(0, 0, 0, 1));
        }
        Due.due("a ninth worker", Due.STATE, () -> pool.consumer(0, 0, 0, 1));
    }

    private static void somethingWasClaimed() {
        Due.sentence("or something was claimed");
        RingPipeline x = withConsumers(0);
        Due.due("a claim that is refused", Due.ARGUMENT, () -> x.claim(0, 9));
        Due.due("claims nothing", 0, () -> x.consumer(0, 0, 0, -1));
        x.run(0, 1);
        Due.due("a run claims nothing", 1, () -> x.consumer(0, 0, 0, -1));
        x.claim(0, 1);
        Due.due("one was claimed", Due.STATE, () -> x.consumer(0, 0, 0, -1));
        x.publish(0, 0, 1);
        x.run(0, 1);
        x.run(1, 1);
        Due.due("it was claimed, though all is done", Due.STATE, () -> x.consumer(0, 0, 0, -1));
    }

    /** The document names both; what it names first is thrown. */
    private static void bothThatCouldBeThrown() {
        Due.sentence("IllegalArgumentException, when ..; IllegalStateException, when ..");
        RingPipeline full = withConsumers(8);
        Due.due("wrong kind where there are eight", Due.ARGUMENT, () -> full.consumer(4, 0, 0, -1));
        Due.due("on a ninth where there are eight", Due.ARGUMENT, () -> full.consumer(0, 256, 0, -1));
        RingPipeline claimed = withConsumers(1);
        claimed.claim(0, 1);
        Due.due("wrong policy behind a claim", Due.ARGUMENT, () -> claimed.consumer(0, 0, 3, -1));
        Due.due("wrong pool behind a claim", Due.ARGUMENT, () -> claimed.consumer(0, 0, 0, 2));
    }

    private static void asItIsMade() {
        Due.sentence("its PLACE is the latest sequence with which it is through, -1 at first");
        RingPipeline x = new RingPipeline(8);
        for (int i = 0; i < 4; i++) {
            int kind = i;
            x.consumer(kind, 0, 0, kind == 3 ? 1 : -1);
            Due.due("place of kind " + i, -1L, () -> x.place(kind));
            Due.due("total of kind " + i, 0L, () -> x.total(kind));
        }
        Due.due("level", 0f, () -> x.level(1));
        Due.due("mean", 0.0, () -> x.mean(2));
        Make.publishAll(x, 4);
        x.run(0, 1);
        Due.due("through with the first", 0L, () -> x.place(0));
        Due.due("the others are not", -1L, () -> x.place(1));
    }
}
