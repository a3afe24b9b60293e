/** The edges that "HOW FAR", "RUNNING" and promises 5 and 6 name, of consumers in no pool. */
public final class RunEdgesTest {
    public static void main(String[] args) {
        oneToTwenty();
        noSuchConsumer();
        atMostMEvents();
        theLastAvailable();
        noFurtherThanTheLeast();
        chainOfEight();
        whenTheBatchBegins();
        eachEventOnceRoundTheRing();
        placeOfNone();
        Due.finish();
    }

    private static void oneToTwenty() {
        Due.sentence("Runs a consumer with m (1 .. 20). IllegalArgumentException, when there is no such m");
        RingPipeline x = Make.one(Make.SUM, Make.IGNORE, 1);
        int[] others = {0, -1, 21, 22, Integer.MIN_VALUE, Integer.MAX_VALUE};
        for (int m : others) {
            Due.due("m " + m, Due.ARGUMENT, () -> x.run(0, m));
        }
        for (int i = 1; i <= 20; i++) {
            int m = i;
            RingPipeline y = Make.one(Make.SUM, Make.IGNORE, 1);
            Due.due("m " + i, 1, () -> y.run(0, m));
            Due.due("m " + i + " with no event", 0, () -> y.run(0, m));
        }
    }

    private static void noSuchConsumer() {
        Due.sentence("IllegalArgumentException, when there is no such consumer");
        RingPipeline none = new RingPipeline(4);
        Due.due("0 where there is none", Due.ARGUMENT, () -> none.run(0, 1));
        for (int made = 1; made <= 8; made++) {
            RingPipeline x = new RingPipeline(4);
            for (int i = 0; i < made; i++) {
                x.consumer(Make.SUM, 0, Make.IGNORE, -1);
            }
            int last = made - 1;
            Due.due("the last of " + made, 0, () -> x.run(last, 1));
            Due.due("the one behind the last of " + made, Due.ARGUMENT, () -> x.run(last + 1, 1));
            Due.due("-1", Due.ARGUMENT, () -> x.run(-1, 1));
            Due.due("the least", Due.ARGUMENT, () -> x.run(Integer.MIN_VALUE, 1));
            Due.due("the greatest", Due.ARGUMENT, () -> x.run(Integer.MAX_VALUE, 1));
        }
    }

    private static void atMostMEvents() {
        Due.sentence("for a batch of at most m events: from the one behind its place");
        for (int i = 0; i <= 16; i++) {
            int events = i;
            for (int j = 1; j <= 20; j++) {
                int m = j;
                RingPipeline x = Make.one(Make.SUM, Make.IGNORE, new long[events]);
                int due = Math.min(events, m);
                Due.due("m " + m + " of " + events, due, () -> x.run(0, m));
                Due.due("its place", due - 1L, () -> x.place(0));
                Due.due("the rest", events - due, () -> x.run(0, 20));
            }
        }
    }

    private static void theLastAvailable() {
        Due.sentence("HOW FAR a consumer may go: to the last available event");
        for (int missing = 0; missing < 8; missing++) {
            RingPipeline x = new RingPipeline(8);
            x.consumer(Make.SUM, 0, Make.IGNORE, -1);
            Due.due("nothing is claimed", 0, () -> x.run(0, 20));
            x.claim(0, 8);
            Due.due("nothing is published", 0, () -> x.run(0, 20));
            for (int i = 0; i < 8; i++) {
                if (i != missing) {
                    x.publish(0, i, 1);
                }
            }
            int before = missing;
            Due.due("up to the gap at " + missing, before, () -> x.run(0, 20));
            Due.due("no further", 0, () -> x.run(0, 20));
            x.publish(0, missing, 1);
            Due.due("the rest", 8 - before, () -> x.run(0, 20));
            Due.due("its total", 8L, () -> x.total(0));
        }
    }

    private static void noFurtherThanTheLeast() {
        Due.sentence("and no further than the least place of those on which it hangs");
        for (int first = 0; first <= 4; first++) {
            for (int second = 0; second <= 4; second++) {
                dueLeast(first, second);
            }
        }
    }

    private static void dueLeast(int first, int second) {
        RingPipeline x = new RingPipeline(8);
        x.consumer(Make.SUM, 0, Make.IGNORE, -1);
        x.consumer(Make.SUM, 0, Make.IGNORE, -1);
        x.consumer(Make.SUM, 0, Make.IGNORE, -1);
        x.consumer(Make.SUM, 3, Make.IGNORE, -1);
        x.consumer(Make.SUM, 2, Make.IGNORE, -1);
        Make.publishAll(x, 1, 1, 1, 1);
        if (first > 0) {
            x.run(0, first);
        }
        if (second > 0) {
            x.run(1, second);
        }
        String where = " where 0 had " + first + " and 1 had " + second;
        Due.due("3 hangs on both," + where, Math.min(first, second), () -> x.run(3, 20));
        Due.due("4 hangs on 1," + where, second, () -> x.run(4, 20));
        Due.due("2 hangs on none," + where, 4, () -> x.run(2, 20));
    }

    private static void chainOfEight() {
        Due.sentence("CONSUMERS at most 8: a consumer hangs on a set of consumers made before it");
        RingPipeline x = new RingPipeline(4);
        for (int i = 0; i < 8; i++) {
            x.consumer(Make.SUM, i == 0 ? 0 : 1 << (i - 1), Make.IGNORE, -1);
        }
        Make.publishAll(x, 1, 2, 4, 8);
        for (int i = 7; i > 0; i--) {
            int number = i;
            Due.due("the one before " + i + " was not run", 0, () -> x.run(number, 20));
        }
        for (int i = 0; i < 8; i++) {
            int number = i;
            Due.due("no room before 7 is through", Due.STATE, () -> x.claim(0, 1));
            Due.due("consumer " + i, 4, () -> x.run(number, 20));
            Due.due("its total", 15L, () -> x.total(number));
        }
        Due.due("7 is through", 4L, () -> x.claim(0, 4));
    }

    private static void whenTheBatchBegins() {
        Due.sentence("up to how far it may go when the batch begins, one by one");
        RingPipeline x = new RingPipeline(4);
        x.consumer(Make.SUM, 0, Make.IGNORE, -1);
        x.claim(0, 4);
        x.publish(0, 0, 1);
        Due.due("one is available", 1, () -> x.run(0, 20));
        x.publish(0, 2, 4);
        Due.due("2 is not", 0, () -> x.run(0, 20));
        x.publish(0, 1, 2);
        Due.due("1 and 2 are", 2, () -> x.run(0, 20));
        Due.due("its place", 2L, () -> x.place(0));
        Due.due("its total", 7L, () -> x.total(0));
    }

    private static void eachEventOnceRoundTheRing() {
        Due.sentence("each consumer handles every event once in order");
        int[] sizes = {4, 8, 16};
        for (int slots : sizes) {
            RingPipeline x = new RingPipeline(slots);
            x.consumer(Make.SMOOTH, 0, Make.IGNORE, -1);
            x.consumer(Make.SUM, 1, Make.IGNORE, -1);
            float level = 0;
            long total = 0;
            for (int batch = 0; batch < 25; batch++) {
                long first = x.claim(0, 3);
                for (int i = 2; i >= 0; i--) {
                    x.publish(0, first + i, 10 * (first + i));
                }
                for (int i = 0; i < 3; i++) {
                    level = level + ((float) (10 * (first + i)) - level) * 0.25f;
                    total += 10 * (first + i);
                }
                Due.due("first of the line", 3, () -> x.run(0, 20));
                Due.due("second of the line", 3, () -> x.run(1, 20));
            }
            float dueLevel = level;
            long dueTotal = total;
            Due.due("level, slots " + slots, dueLevel, () -> x.level(0));
            Due.due("total, slots " + slots, dueTotal, () -> x.total(1));
            Due.due("place, slots " + slots, 74L, () -> x.place(1));
        }
    }

    private static void placeOfNone() {
        Due.sentence("A consumer's place. IllegalArgumentException, when there is none");
        RingPipeline none = new RingPipeline(4);
        Due.due("0 where there is none", Due.ARGUMENT, () -> none.place(0));
        RingPipeline x = new RingPipeline(4);
        for (int i = 0; i < 8; i++) {
            int number = i;
            Due.due("before " + i + " is made", Due.ARGUMENT, () -> x.place(number));
            x.consumer(Make.SUM, 0, Make.IGNORE, -1);
            Due.due("when " + i + " is made", -1L, () -> x.place(number));
        }
        int[] others = {-1, 8, 9, Integer.MIN_VALUE, Integer.MAX_VALUE};
        for (int consumer : others) {
            Due.due("place of " + consumer, Due.ARGUMENT, () -> x.place(consumer));
        }
    }
}
