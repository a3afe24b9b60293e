import java.util.Random;
import java.util.concurrent.Callable;

/** All promises: many runs of calls, each answer held against the one that Model gives. */
public final class ModelTest {
    private static final int RUNS = 6000;
    private static final int STEPS = 200;
    /** Later calls may answer what they like; some are kept for a look at the end. */
    private static final int MOST_CALLS = 512;
    private static final int CALLS_BEFORE_THE_END = 330;

    private final Random random;
    private final RingPipeline x;
    private final Model model;
    private final int run;
    private final StringBuilder story = new StringBuilder();
    private final int[] kinds;
    private int made;
    private int calls;

    private ModelTest(int run) {
        this.run = run;
        random = new Random(run);
        int[] sizes = {4, 8, 16, random.nextInt(40) - 10};
        int slots = sizes[random.nextInt(sizes.length)];
        x = new RingPipeline(slots);
        model = new Model(slots);
        story.append("new ").append(slots);
        kinds = random.nextBoolean() ? new int[] {0, 1, 2, 3} : new int[] {random.nextInt(4), 3};
    }

    public static void main(String[] args) {
        for (int run = 0; run < RUNS && Due.allRight(); run++) {
            new ModelTest(run).go();
        }
        Due.finish();
    }

    private void go() {
        int consumers = random.nextInt(9);
        for (int i = 0; i < 3 * consumers && made < consumers; i++) {
            makeConsumer();
        }
        boolean negatives = random.nextInt(3) > 0;
        for (int i = 0; i < STEPS && calls < CALLS_BEFORE_THE_END; i++) {
            step(negatives);
        }
        lookAtAll();
        lookAtBytes();
    }

    private void makeConsumer() {
        int kind = random.nextInt(12) == 0 ? random.nextInt(9) - 2 : kinds[random.nextInt(kinds.length)];
        int on = random.nextInt(3) == 0 ? 0 : random.nextInt(1 << made);
        if (random.nextInt(12) == 0) {
            on = random.nextInt();
        }
        int policy = random.nextInt(12) == 0 ? random.nextInt(6) - 1 : random.nextInt(3);
        int pool = random.nextInt(12) == 0 ? random.nextInt(6) - 2 : Math.max(-1, random.nextInt(5) - 3);
        int o = on;
        same("consumer(" + kind + ", " + on + ", " + policy + ", " + pool + ")",
                () -> model.consumer(kind, o, policy, pool), () -> x.consumer(kind, o, policy, pool));
        made = 0;
        while (Due.answer(() -> model.place(made)) instanceof Long) {
            made++;
        }
    }

    private void step(boolean negatives) {
        int which = random.nextInt(40);
        if (which == 0) {
            makeConsumer();
        } else if (which < 10) {
            claim();
        } else if (which < 20) {
            publish(negatives);
        } else if (which < 34) {
            runOne();
        } else {
            look(random.nextInt(9));
        }
    }

    private int aConsumer() {
        return random.nextInt(25) == 0 ? random.nextInt() >> random.nextInt(32) : random.nextInt(made + 1);
    }

    private void claim() {
        int producer = random.nextInt(20) == 0 ? random.nextInt(7) - 2 : random.nextInt(4);
        int n = random.nextInt(4) == 0 ? random.nextInt(20) - 1 : 1 + random.nextInt(3);
        same("claim(" + producer + ", " + n + ")", () -> model.claim(producer, n), () -> x.claim(producer, n));
    }

    private void publish(boolean negatives) {
        long cursor = model.state(0, 0);
        long last = model.state(1, 0);
        long value = value(negatives);
        if (random.nextInt(8) == 0) {
            publishOne(random.nextInt(6) - 1, cursor - random.nextInt(20) + 2, value);
            return;
        }
        long first = random.nextInt(3) == 0 ? last + 2 : last + 1;
        for (long s = first; s <= cursor && s < first + 4; s++) {
            for (int producer = 0; producer < 4; producer++) {
                publishOne(producer, s, value(negatives));
            }
        }
    }

    private void publishOne(int producer, long s, long value) {
        same("publish(" + producer + ", " + s + ", " + value + ")",
                () -> model.publish(producer, s, value), () -> x.publish(producer, s, value));
    }

    private long value(boolean negatives) {
        int which = random.nextInt(12);
        if (which == 0 && negatives) {
            return -1;
        }
        if (which == 1 && negatives) {
            return -2 - random.nextInt(5);
        }
        return which < 4 ? random.nextLong() >>> 1 : random.nextInt(1000);
    }

    private void runOne() {
        int consumer = aConsumer();
        int m = random.nextInt(15) == 0 ? random.nextInt(25) - 2 : 1 + random.nextInt(8);
        same("run(" + consumer + ", " + m + ")", () -> model.run(consumer, m), () -> x.run(consumer, m));
    }

    private void look(int which) {
        int c = aConsumer();
        int small = random.nextInt(7) - 2;
        int n = random.nextInt(6) == 0 ? random.nextInt(420) - 5 : random.nextInt(15);
        long s = random.nextInt(30) - 2;
        switch (which) {
            case 0 -> same("place(" + c + ")", () -> model.place(c), () -> x.place(c));
            case 1 -> same("total(" + c + ")", () -> model.total(c), () -> x.total(c));
            case 2 -> same("level(" + c + ")", () -> model.level(c), () -> x.level(c));
            case 3 -> same("mean(" + c + ")", () -> model.mean(c), () -> x.mean(c));
            case 4 -> same("octet(" + c + ", " + n + ")", () -> model.octet(c, n), () -> x.octet(c, n));
            case 5 -> same("tear(" + c + ", " + n + ")", () -> model.tear(c, n), () -> x.tear(c, n));
            case 6 -> same("replay(" + c + ")", () -> model.replay(c), () -> x.replay(c));
            case 7 -> same("count(" + c + ", " + small + ")", () -> model.count(c, small), () -> x.count(c, small));
            default -> same("state(" + small + ", " + s + ")", () -> model.state(small, s), () -> x.state(small, s));
        }
        same("replayed()", model::replayed, x::replayed);
    }

    private void lookAtAll() {
        for (int i = 0; i < made; i++) {
            int c = i;
            same("place(" + c + ")", () -> model.place(c), () -> x.place(c));
            same("total(" + c + ")", () -> model.total(c), () -> x.total(c));
            same("level(" + c + ")", () -> model.level(c), () -> x.level(c));
            same("mean(" + c + ")", () -> model.mean(c), () -> x.mean(c));
            same("replay(" + c + ")", () -> model.replay(c), () -> x.replay(c));
            same("replayed()", model::replayed, x::replayed);
            for (int j = 0; j < 4; j++) {
                int what = j;
                same("count(" + c + ", " + what + ")", () -> model.count(c, what), () -> x.count(c, what));
            }
        }
        for (int j = 0; j < 16; j++) {
            int s = j;
            same("state(2, " + s + ")", () -> model.state(2, s), () -> x.state(2, s));
        }
    }

    /** From the last bytes on, each journal's in turn, as long as calls are left. */
    private void lookAtBytes() {
        for (int back = 0; back < 400; back++) {
            for (int i = 0; i < made; i++) {
                int c = i;
                int at = (int) model.total(c) - back;
                if (Due.answer(() -> model.octet(c, 0)) instanceof Integer && at >= 0) {
                    same("octet(" + c + ", " + at + ")", () -> model.octet(c, at), () -> x.octet(c, at));
                }
            }
        }
    }

    private void same(String call, Callable<?> due, Callable<?> made) {
        if (!Due.allRight() || calls == MOST_CALLS) {
            return;
        }
        calls++;
        Object want = Due.answer(due);
        Due.due("run " + run + ": " + call, want, made);
        story.append("\n  ").append(call).append(" = ").append(want);
        if (!Due.allRight()) {
            System.out.println(story);
        }
    }
}
