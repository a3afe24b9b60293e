/** Promise 3: claim. */
public final class ClaimTest {
    public static void main(String[] args) {
        sequences();
        wrongArguments();
        roomWithoutConsumers();
        roomWithConsumers();
        roomBehindAPool();
        roomBehindPartOfAPool();
        Due.finish();
    }

    private static void sequences() {
        RingPipeline x = new RingPipeline(16);
        Due.due("the first claim", 0L, () -> x.claim(0, 3));
        Due.due("the second", 3L, () -> x.claim(3, 1));
        Due.due("the third", 4L, () -> x.claim(1, 12));
        Due.due("the cursor", 15L, () -> x.state(0, 0));
    }

    private static void wrongArguments() {
        RingPipeline x = new RingPipeline(4);
        int[] wrongProducers = {-1, 4, Integer.MIN_VALUE, Integer.MAX_VALUE};
        for (int producer : wrongProducers) {
            Due.due("producer " + producer, Due.ARGUMENT, () -> x.claim(producer, 1));
        }
        int[] wrongNumbers = {0, -1, 5, Integer.MIN_VALUE, Integer.MAX_VALUE};
        for (int n : wrongNumbers) {
            Due.due("n " + n, Due.ARGUMENT, () -> x.claim(0, n));
        }
        Due.due("nothing was claimed", -1L, () -> x.state(0, 0));
        x.claim(0, 4);
        Due.due("wrong n without room", Due.ARGUMENT, () -> x.claim(0, 5));
        Due.due("wrong producer without room", Due.ARGUMENT, () -> x.claim(4, 1));
        Due.due("right, without room", Due.STATE, () -> x.claim(3, 1));
    }

    private static void roomWithoutConsumers() {
        RingPipeline x = new RingPipeline(4);
        x.claim(0, 4);
        x.publish(0, 1, 7);
        Due.due("1 is published but not available", Due.STATE, () -> x.claim(0, 1));
        x.publish(0, 0, 7);
        Due.due("three where two are free", Due.STATE, () -> x.claim(0, 3));
        Due.due("the cursor stays", 3L, () -> x.state(0, 0));
        Due.due("two where two are free", 4L, () -> x.claim(0, 2));
        Due.due("one more", Due.STATE, () -> x.claim(0, 1));
    }

    private static void roomWithConsumers() {
        RingPipeline x = new RingPipeline(4);
        x.consumer(0, 0, 0, -1);
        x.consumer(0, 1, 0, -1);
        x.consumer(0, 0, 0, -1);
        Make.publishAll(x, 1, 2, 3, 4);
        Due.due("available, but none is through", Due.STATE, () -> x.claim(0, 1));
        x.run(0, 4);
        x.run(2, 3);
        Due.due("the one that hangs on 0 is not through", Due.STATE, () -> x.claim(0, 1));
        x.run(1, 2);
        Due.due("1 has place 1, so no three", Due.STATE, () -> x.claim(0, 3));
        Due.due("but two", 4L, () -> x.claim(0, 2));
        x.run(1, 2);
        Due.due("2 has place 2 now, so no two", Due.STATE, () -> x.claim(0, 2));
        Due.due("but one", 6L, () -> x.claim(0, 1));
    }

    private static void roomBehindAPool() {
        RingPipeline x = new RingPipeline(4);
        x.consumer(0, 0, 0, 1);
        x.consumer(0, 0, 0, 1);
        Make.publishAll(x, 1, 2);
        x.claim(0, 2);
        x.run(0, 20);
        Due.due("the first worker has event 2", 1L, () -> x.place(0));
        Due.due("no three behind the pool", Due.STATE, () -> x.claim(0, 3));
        Due.due("two behind the pool", 4L, () -> x.claim(0, 2));
    }

    private static void roomBehindPartOfAPool() {
        RingPipeline x = new RingPipeline(4);
        x.consumer(0, 0, 0, 0);
        x.consumer(0, 0, 0, 0);
        x.consumer(0, 1, 0, -1);
        Make.publishAll(x, 1, 2, 3, 4);
        x.run(0, 4);
        Due.due("2 hangs on the pool and is not through", Due.STATE, () -> x.claim(0, 1));
        x.run(2, 1);
        Due.due("2 is through with one", 4L, () -> x.claim(0, 1));
    }
}
