/** The edges that "CLAIMING" and promise 3 name: a method for each sentence. */
public final class ClaimEdgesTest {
    private static final int[] SIZES = {4, 8, 16};

    public static void main(String[] args) {
        producers();
        oneToTheSlots();
        behindTheCursor();
        withoutConsumers();
        aboveTheLeastPlace();
        onWhichNoneHangs();
        placeOfAPool();
        roundAndRound();
        Due.finish();
    }

    private static void producers() {
        Due.sentence("IllegalArgumentException, when producer is not 0 .. 3");
        RingPipeline x = new RingPipeline(8);
        int[] others = {-1, 4, Integer.MIN_VALUE, Integer.MAX_VALUE};
        for (int producer : others) {
            Due.due("producer " + producer, Due.ARGUMENT, () -> x.claim(producer, 1));
        }
        for (int i = 0; i < 4; i++) {
            int producer = i;
            Due.due("producer " + i, (long) i, () -> x.claim(producer, 1));
        }
    }

    private static void oneToTheSlots() {
        Due.sentence("or n not 1 .. the slots");
        for (int slots : SIZES) {
            for (int i = 1; i <= slots; i++) {
                int n = i;
                RingPipeline x = new RingPipeline(slots);
                Due.due("n " + n + " of " + slots, 0L, () -> x.claim(0, n));
                Due.due("its cursor", n - 1L, () -> x.state(0, 0));
            }
            int[] others = {0, -1, slots + 1, slots + 2, Integer.MIN_VALUE, Integer.MAX_VALUE};
            for (int n : others) {
                RingPipeline x = new RingPipeline(slots);
                Due.due("n " + n + " of " + slots, Due.ARGUMENT, () -> x.claim(0, n));
                x.claim(0, slots);
                Due.due("n " + n + " of " + slots + " that are full", Due.ARGUMENT, () -> x.claim(0, n));
            }
        }
    }

    private static void behindTheCursor() {
        Due.sentence("they are those behind the cursor; the cursor is the last one then");
        RingPipeline x = new RingPipeline(16);
        Due.due("the first five", 0L, () -> x.claim(0, 5));
        Due.due("the cursor", 4L, () -> x.state(0, 0));
        Due.due("the next", 5L, () -> x.claim(1, 1));
        Due.due("the last ten", 6L, () -> x.claim(2, 10));
        Due.due("the cursor at the end", 15L, () -> x.state(0, 0));
        int[] owners = {0, 0, 0, 0, 0, 1, 2, 2, 2, 2, 2, 2, 2, 2, 2, 2};
        for (int i = 0; i < 16; i++) {
            int sequence = i;
            Due.due("the owner of " + i, true, () -> x.publish(owners[sequence], sequence, 0));
        }
    }

    /** Every number of available events against every n, so that each room is met from both sides. */
    private static void withoutConsumers() {
        Due.sentence("or, without consumers, above the last available event");
        for (int slots : SIZES) {
            for (int free = 0; free <= slots; free++) {
                for (int n = 1; n <= slots; n++) {
                    RingPipeline x = new RingPipeline(slots);
                    fill(x, slots, free);
                    if (free < slots - 1) {
                        x.publish(0, free + 1, 1);
                    }
                    dueRoom(x, slots, free, n);
                }
            }
        }
    }

    private static void aboveTheLeastPlace() {
        Due.sentence("if the last of them, less the slots, is not above the least place");
        for (int slots : SIZES) {
            for (int free = 0; free <= slots; free++) {
                for (int n = 1; n <= slots; n++) {
                    dueBehind(1, 0, slots, free, n);
                }
            }
        }
        for (int last = 0; last < 8; last++) {
            dueBehind(8, last, 4, 0, 1);
            dueBehind(8, last, 4, 2, 2);
            dueBehind(8, last, 4, 2, 3);
        }
    }

    /** All consumers are through with the whole ring but one, which is through with so many. */
    private static void dueBehind(int consumers, int last, int slots, int free, int n) {
        RingPipeline x = new RingPipeline(slots);
        for (int i = 0; i < consumers; i++) {
            x.consumer(Make.SUM, 0, Make.IGNORE, -1);
        }
        fill(x, slots, slots);
        for (int i = 0; i < consumers; i++) {
            int through = i == last ? free : slots;
            if (through > 0) {
                x.run(i, through);
            }
        }
        dueRoom(x, slots, free, n);
    }

    private static void fill(RingPipeline x, int slots, int published) {
        x.claim(0, slots);
        for (int i = 0; i < published; i++) {
            x.publish(0, i, 1);
        }
    }

    private static void dueRoom(RingPipeline x, int slots, int free, int n) {
        boolean fits = n <= free;
        Object due = fits ? (Object) (long) slots : Due.STATE;
        Due.due(n + " where " + free + " of " + slots + " are free", due, () -> x.claim(1, n));
        Due.due("the cursor", slots - 1L + (fits ? n : 0), () -> x.state(0, 0));
    }

    private static void onWhichNoneHangs() {
        Due.sentence("the least place of the consumers on which none hangs");
        RingPipeline x = new RingPipeline(4);
        x.consumer(Make.SUM, 0, Make.IGNORE, -1);
        x.consumer(Make.SUM, 1, Make.IGNORE, -1);
        x.consumer(Make.SUM, 1, Make.IGNORE, -1);
        fill(x, 4, 4);
        x.run(0, 4);
        Due.due("neither 1 nor 2 is through", Due.STATE, () -> x.claim(0, 1));
        x.run(1, 2);
        Due.due("2 is not through", Due.STATE, () -> x.claim(0, 1));
        x.run(2, 1);
        Due.due("two, where 2 is through with one", Due.STATE, () -> x.claim(0, 2));
        Due.due("one", 4L, () -> x.claim(0, 1));
        x.run(2, 3);
        Due.due("two, where 1 is through with one more", Due.STATE, () -> x.claim(0, 2));
        Due.due("one more", 5L, () -> x.claim(0, 1));
    }

    private static void placeOfAPool() {
        Due.sentence("(of a pool, the pool's)");
        RingPipeline x = new RingPipeline(4);
        x.consumer(Make.SUM, 0, Make.IGNORE, 0);
        x.consumer(Make.SUM, 0, Make.IGNORE, 0);
        x.claim(0, 4);
        Due.due("0 takes event 0", 0, () -> x.run(0, 1));
        for (int i = 0; i < 4; i++) {
            x.publish(0, i, 1);
        }
        Due.due("1 handles the others", 3, () -> x.run(1, 3));
        Due.due("0 has event 0", Due.STATE, () -> x.claim(0, 1));
        Due.due("0 handles it", 1, () -> x.run(0, 1));
        Due.due("none has one, 3 was taken last", 4L, () -> x.claim(0, 4));
        Due.due("no room beyond", Due.STATE, () -> x.claim(0, 1));
    }

    private static void roundAndRound() {
        Due.sentence("CLAIMING n sequences: they are those behind the cursor");
        for (int slots : SIZES) {
            RingPipeline x = new RingPipeline(slots);
            x.consumer(Make.SUM, 0, Make.IGNORE, -1);
            long sum = 0;
            for (int i = 0; i < 80; i++) {
                long next = 2 * i;
                Due.due("claim " + next + " of " + slots, next, () -> x.claim(1, 2));
                Due.due("its second", false, () -> x.publish(1, next + 1, 3));
                Due.due("its first", true, () -> x.publish(1, next, next));
                Due.due("both", 2, () -> x.run(0, 20));
                sum += next + 3;
            }
            long due = sum;
            Due.due("total of " + slots, due, () -> x.total(0));
        }
    }
}
