/** The edges that "THE RING" and promises 1, 4 and 15 name: a method for each sentence. */
public final class RingEdgesTest {
    private static final int[] SIZES = {4, 8, 16};

    public static void main(String[] args) {
        slotsOfARing();
        slotOfASequence();
        sequencesFromZero();
        producersOfSlots();
        publishedLast();
        latestClaimed();
        availableWithAllBefore();
        notClaimedByThisProducer();
        publishedOnce();
        claimedAgainInItsSlot();
        otherStates();
        sequenceBelowZero();
        lastCall();
        Due.finish();
    }

    private static void slotsOfARing() {
        Due.sentence("of slots that are none of 4, 8, 16 there are 8");
        for (int slots = -20; slots <= 40; slots++) {
            dueSlots(slots, slots == 4 || slots == 16 ? slots : 8);
        }
        int[] far = {64, 128, 256, 260, 264, 272, 1 << 16, 1 << 30, Integer.MAX_VALUE, Integer.MIN_VALUE,
            Integer.MIN_VALUE + 4, Integer.MIN_VALUE + 16};
        for (int slots : far) {
            dueSlots(slots, 8);
        }
    }

    private static void dueSlots(int asked, int due) {
        RingPipeline x = new RingPipeline(asked);
        Due.due("one more than all slots of " + asked, Due.ARGUMENT, () -> x.claim(0, due + 1));
        Due.due("all slots of " + asked, 0L, () -> x.claim(0, due));
        x.publish(0, 0, 5);
        Due.due("the last slot of " + asked, -1L, () -> x.state(2, due - 1));
        Due.due("the first slot again, of " + asked, 0L, () -> x.state(2, due));
    }

    private static void slotOfASequence() {
        Due.sentence("sequence s lies in slot s modulo the slots");
        for (int slots : SIZES) {
            RingPipeline x = new RingPipeline(slots);
            for (int i = 0; i < 3 * slots; i++) {
                long sequence = i;
                Due.due("before " + i, i < slots ? -1L : sequence - slots, () -> x.state(2, sequence));
                Make.publishAll(x, i);
                Due.due("behind " + i, sequence, () -> x.state(2, sequence));
                Due.due("a lap behind " + i, sequence, () -> x.state(2, sequence + slots));
                long least = sequence % slots;
                Due.due("the least of the slot of " + i, sequence, () -> x.state(2, least));
                long greatest = Long.MAX_VALUE - (slots - 1) + least;
                Due.due("the greatest of the slot of " + i, sequence, () -> x.state(2, greatest));
            }
        }
    }

    private static void sequencesFromZero() {
        Due.sentence("SEQUENCES are whole numbers from 0 on");
        RingPipeline x = new RingPipeline(4);
        Due.due("the first", 0L, () -> x.claim(0, 1));
        long[] below = {-1, -4, -3, Long.MIN_VALUE};
        for (long sequence : below) {
            Due.due("publish " + sequence, Due.ELEMENT, () -> x.publish(0, sequence, 1));
        }
        Due.due("publish 0", true, () -> x.publish(0, 0, 1));
    }

    private static void producersOfSlots() {
        Due.sentence("A slot has a VALUE (a long) and a PRODUCER (0 .. 3)");
        RingPipeline x = new RingPipeline(8);
        x.consumer(Make.SUM, 0, Make.IGNORE, -1);
        Due.due("producer 0", 0L, () -> x.claim(0, 1));
        Due.due("producer 3", 1L, () -> x.claim(3, 1));
        Due.due("the least value", true, () -> x.publish(0, 0, Long.MIN_VALUE));
        Due.due("the greatest value", true, () -> x.publish(3, 1, Long.MAX_VALUE));
        x.run(0, 1);
        Due.due("the least value is handled", Long.MIN_VALUE, () -> x.total(0));
        x.run(0, 1);
        Due.due("the greatest value is handled", -1L, () -> x.total(0));
    }

    private static void publishedLast() {
        Due.sentence("the sequence that was PUBLISHED in it last, if any");
        RingPipeline x = new RingPipeline(4);
        x.claim(0, 4);
        Due.due("a claim alone is none", -1L, () -> x.state(2, 0));
        x.publish(0, 3, 1);
        Due.due("one that is not available yet is", 3L, () -> x.state(2, 3));
        Due.due("the slot beside it", -1L, () -> x.state(2, 2));
        x.publish(0, 0, 1);
        x.claim(1, 1);
        Due.due("a claim of the next lap alone leaves it", 0L, () -> x.state(2, 4));
        x.publish(1, 4, 1);
        Due.due("the next lap", 4L, () -> x.state(2, 0));
    }

    private static void latestClaimed() {
        Due.sentence("The CURSOR is the latest sequence that was claimed, -1 at first");
        RingPipeline x = new RingPipeline(4);
        Due.due("at first", -1L, () -> x.state(0, 0));
        x.claim(0, 1);
        Due.due("behind a claim of one", 0L, () -> x.state(0, 0));
        x.claim(3, 3);
        Due.due("behind a claim of three", 3L, () -> x.state(0, 0));
        x.publish(0, 0, 1);
        Due.due("a publishing does not move it", 3L, () -> x.state(0, 0));
        x.claim(0, 1);
        Due.due("in the next lap", 4L, () -> x.state(0, 0));
    }

    private static void availableWithAllBefore() {
        Due.sentence("An event is AVAILABLE when it and all before it are published");
        for (int slots : SIZES) {
            RingPipeline x = new RingPipeline(slots);
            Due.due("without any", -1L, () -> x.state(1, 0));
            x.claim(0, slots);
            for (int i = slots - 1; i > 0; i--) {
                long sequence = i;
                Due.due("publish " + i + " before 0", false, () -> x.publish(0, sequence, 1));
                Due.due("0 is missing", -1L, () -> x.state(1, 0));
            }
            Due.due("publish 0", true, () -> x.publish(0, 0, 1));
            Due.due("all at once", slots - 1L, () -> x.state(1, 0));
            x.claim(0, 3);
            Due.due("the second of the next lap", false, () -> x.publish(0, slots + 1, 1));
            Due.due("what the last lap left does not fill the gap", slots - 1L, () -> x.state(1, 0));
            Due.due("the first of the next lap", true, () -> x.publish(0, slots, 1));
            Due.due("up to the second", slots + 1L, () -> x.state(1, 0));
            Due.due("the third", true, () -> x.publish(0, slots + 2, 1));
        }
    }

    private static void notClaimedByThisProducer() {
        Due.sentence("NoSuchElementException, when the sequence is not claimed by this producer");
        RingPipeline x = new RingPipeline(8);
        for (int producer = 0; producer < 4; producer++) {
            x.claim(producer, 2);
        }
        for (int i = 7; i >= 0; i--) {
            long sequence = i;
            for (int j = -1; j <= 4; j++) {
                int producer = j;
                if (producer != i / 2) {
                    Due.due(j + " publishes " + i, Due.ELEMENT, () -> x.publish(producer, sequence, 1));
                }
            }
            int owner = i / 2;
            Due.due(owner + " publishes " + i, i == 0, () -> x.publish(owner, sequence, 1));
        }
        RingPipeline y = new RingPipeline(8);
        Due.due("0 before any claim", Due.ELEMENT, () -> y.publish(0, 0, 1));
        y.claim(0, 3);
        long[] behind = {3, 4, 8, 10, Long.MAX_VALUE, Long.MAX_VALUE - 7};
        for (long sequence : behind) {
            Due.due(sequence + " behind the cursor", Due.ELEMENT, () -> y.publish(0, sequence, 1));
        }
        Due.due("the cursor's", false, () -> y.publish(0, 2, 1));
    }

    private static void publishedOnce() {
        Due.sentence("or was published");
        RingPipeline x = new RingPipeline(4);
        x.claim(2, 2);
        Due.due("1 for the first time", false, () -> x.publish(2, 1, 3));
        Due.due("1 again, not available", Due.ELEMENT, () -> x.publish(2, 1, 3));
        Due.due("0 for the first time", true, () -> x.publish(2, 0, 3));
        Due.due("0 again, available", Due.ELEMENT, () -> x.publish(2, 0, 3));
        Due.due("1 again, available", Due.ELEMENT, () -> x.publish(2, 1, 3));
    }

    private static void claimedAgainInItsSlot() {
        Due.sentence("A claimed sequence is its producer's, until it is published, once");
        RingPipeline x = new RingPipeline(4);
        x.claim(0, 4);
        for (int i = 0; i < 4; i++) {
            x.publish(0, i, i);
        }
        x.claim(1, 4);
        Due.due("0 has slot 0 no more", Due.ELEMENT, () -> x.publish(0, 4, 1));
        Due.due("1 has slot 0, but not sequence 0", Due.ELEMENT, () -> x.publish(1, 0, 1));
        Due.due("sequence 0 is 0's no more", Due.ELEMENT, () -> x.publish(0, 0, 1));
        Due.due("nor is a lap on", Due.ELEMENT, () -> x.publish(1, 8, 1));
        Due.due("1 publishes 4", true, () -> x.publish(1, 4, 1));
        Due.due("1 publishes 7", false, () -> x.publish(1, 7, 1));
        Due.due("7, a lap before", Due.ELEMENT, () -> x.publish(1, 3, 1));
    }

    private static void otherStates() {
        Due.sentence("IllegalArgumentException, for another what");
        RingPipeline x = new RingPipeline(4);
        Make.publishAll(x, 1, 2);
        x.claim(0, 1);
        long[] due = {2, 1, 0};
        for (int i = 0; i < 3; i++) {
            int what = i;
            Due.due("what " + i, due[i], () -> x.state(what, 0));
        }
        int[] others = {-1, 3, 4, Integer.MIN_VALUE, Integer.MAX_VALUE};
        for (int what : others) {
            Due.due("what " + what, Due.ARGUMENT, () -> x.state(what, 0));
            Due.due("what " + what + ", and a sequence below 0", Due.ARGUMENT, () -> x.state(what, -1));
        }
    }

    private static void sequenceBelowZero() {
        Due.sentence("or (2) a sequence below 0");
        RingPipeline x = new RingPipeline(4);
        Make.publishAll(x, 1, 2);
        long[] below = {-1, -4, Long.MIN_VALUE};
        for (long sequence : below) {
            Due.due("published " + sequence, Due.ARGUMENT, () -> x.state(2, sequence));
            Due.due("the cursor has none " + sequence, 1L, () -> x.state(0, sequence));
            Due.due("nor has the last available " + sequence, 1L, () -> x.state(1, sequence));
        }
        Due.due("published 0", 0L, () -> x.state(2, 0));
        Due.due("published without", -1L, () -> x.state(2, 2));
        Due.due("the greatest", -1L, () -> x.state(2, Long.MAX_VALUE));
        Due.due("the cursor of the greatest", 1L, () -> x.state(0, Long.MAX_VALUE));
    }

    private static void lastCall() {
        Due.sentence("An object is used for at most 512 calls after it has been made");
        RingPipeline x = new RingPipeline(4);
        Due.due("call 1", 0, () -> x.consumer(Make.SUM, 0, Make.IGNORE, -1));
        for (int i = 0; i < 170; i++) {
            long sequence = i;
            Due.due("call " + (3 * i + 2), sequence, () -> x.claim(producerOf(sequence), 1));
            Due.due("call " + (3 * i + 3), true, () -> x.publish(producerOf(sequence), sequence, 1));
            Due.due("call " + (3 * i + 4), 1, () -> x.run(0, 20));
        }
        Due.due("call 512", 170L, () -> x.total(0));
    }

    private static int producerOf(long sequence) {
        return (int) (sequence % 4);
    }
}
