/** Promise 4: publish. */
public final class PublishTest {
    public static void main(String[] args) {
        available();
        notClaimed();
        onlyOnce();
        overtakenInItsSlot();
        Due.finish();
    }

    private static void available() {
        RingPipeline x = new RingPipeline(8);
        x.claim(2, 4);
        Due.due("2 before 0 and 1", false, () -> x.publish(2, 2, 5));
        Due.due("1 before 0", false, () -> x.publish(2, 1, Long.MIN_VALUE));
        Due.due("available still", -1L, () -> x.state(1, 0));
        Due.due("0", true, () -> x.publish(2, 0, 0));
        Due.due("available with all that were waiting", 2L, () -> x.state(1, 0));
        Due.due("3", true, () -> x.publish(2, 3, Long.MAX_VALUE));
        Due.due("available", 3L, () -> x.state(1, 0));
    }

    private static void notClaimed() {
        RingPipeline x = new RingPipeline(8);
        Due.due("before any claim", Due.ELEMENT, () -> x.publish(0, 0, 1));
        x.claim(1, 2);
        x.claim(3, 1);
        long[] wrong = {-1, 3, 8, 9, Long.MIN_VALUE, Long.MAX_VALUE, -8};
        for (long sequence : wrong) {
            Due.due("sequence " + sequence, Due.ELEMENT, () -> x.publish(1, sequence, 1));
        }
        int[] others = {0, 2, 3, -1, 4, Integer.MIN_VALUE, Integer.MAX_VALUE};
        for (int producer : others) {
            Due.due("producer " + producer, Due.ELEMENT, () -> x.publish(producer, 0, 1));
        }
        Due.due("another's", Due.ELEMENT, () -> x.publish(1, 2, 1));
        Due.due("nothing is available", -1L, () -> x.state(1, 0));
        Due.due("nothing is published", -1L, () -> x.state(2, 0));
        Due.due("its own", false, () -> x.publish(3, 2, 1));
    }

    private static void onlyOnce() {
        RingPipeline x = Make.one(Make.SUM, Make.IGNORE, 5);
        Due.due("again", Due.ELEMENT, () -> x.publish(0, 0, 6));
        Due.due("the event", 1, () -> x.run(0, 1));
        Due.due("its value is the first one", 5L, () -> x.total(0));
        Due.due("again, when it was handled", Due.ELEMENT, () -> x.publish(0, 0, 6));
    }

    private static void overtakenInItsSlot() {
        RingPipeline x = new RingPipeline(4);
        Make.publishAll(x, 1, 2, 3, 4);
        Due.due("4 in the slot of 0", 4L, () -> x.claim(0, 1));
        Due.due("0 while 4 is open", Due.ELEMENT, () -> x.publish(0, 0, 9));
        Due.due("4", true, () -> x.publish(0, 4, 9));
        Due.due("0 behind 4", Due.ELEMENT, () -> x.publish(0, 0, 9));
        Due.due("4 again", Due.ELEMENT, () -> x.publish(0, 4, 9));
    }
}
