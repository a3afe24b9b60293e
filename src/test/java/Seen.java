import java.util.concurrent.Callable;
import java.util.function.Function;
import java.util.function.Supplier;

/** All that an object shows, now and when it goes on, so that two objects can be held together. */
final class Seen {
    private final RingPipeline x;
    private final StringBuilder text = new StringBuilder();

    private Seen(RingPipeline x) {
        this.x = x;
    }

    /** The call is refused with what is due, and leaves the object as one that was never asked. */
    static void refused(String call, Object due, Supplier<RingPipeline> make, Function<RingPipeline, ?> made) {
        RingPipeline asked = make.get();
        Due.due(call, due, () -> made.apply(asked));
        String untouched = of(make.get());
        Due.due(call + " changes nothing", untouched, () -> of(asked));
    }

    private static String of(RingPipeline x) {
        Seen seen = new Seen(x);
        seen.look();
        seen.goOn();
        seen.look();
        return seen.text.toString();
    }

    private void add(String call, Callable<?> made) {
        text.append(call).append(' ').append(Due.answer(made)).append('\n');
    }

    private int made() {
        int number = 0;
        while (hasConsumer(number)) {
            number++;
        }
        return number;
    }

    private boolean hasConsumer(int number) {
        return Due.answer(() -> x.place(number)) instanceof Long;
    }

    private void look() {
        add("replayed", x::replayed);
        add("cursor", () -> x.state(0, 0));
        add("available", () -> x.state(1, 0));
        for (int i = 0; i < 16; i++) {
            int sequence = i;
            add("published", () -> x.state(2, sequence));
        }
        int consumers = made();
        for (int i = 0; i < consumers; i++) {
            lookAt(i);
        }
    }

    private void lookAt(int consumer) {
        add("place", () -> x.place(consumer));
        add("total", () -> x.total(consumer));
        add("level", () -> x.level(consumer));
        add("mean", () -> x.mean(consumer));
        for (int i = 0; i < 4; i++) {
            int what = i;
            add("count", () -> x.count(consumer, what));
        }
        addBytes(consumer);
    }

    private void addBytes(int consumer) {
        Object answer = octet(consumer, 0);
        for (int i = 1; answer instanceof Integer; i++) {
            text.append("octet ").append(answer).append('\n');
            answer = octet(consumer, i);
        }
    }

    private Object octet(int consumer, int i) {
        return Due.answer(() -> x.octet(consumer, i));
    }

    /** Pools, open sequences, what workers have and how often one was rewound show only here. */
    private void goOn() {
        add("consumer in pool 0", () -> x.consumer(0, 0, 0, 0));
        add("consumer in pool 1", () -> x.consumer(0, 0, 0, 1));
        publishOpen();
        runAll(1);
        for (int i = 0; i < 4; i++) {
            int producer = i;
            add("claim", () -> x.claim(producer, 1));
        }
        publishOpen();
        runAll(20);
        runBackwards();
    }

    private void publishOpen() {
        for (long i = x.state(1, 0) + 1; i <= x.state(0, 0); i++) {
            long sequence = i;
            for (int j = 0; j < 4; j++) {
                int producer = j;
                add("publish", () -> x.publish(producer, sequence, 100 + sequence));
            }
        }
    }

    /** The last ones first, with a claim behind each: it shows for which of them a slot must wait. */
    private void runBackwards() {
        for (int i = 0; i < 16; i++) {
            add("claim", () -> x.claim(0, 1));
        }
        publishOpen();
        for (int i = made() - 1; i >= 0; i--) {
            int consumer = i;
            add("run", () -> x.run(consumer, 20));
            add("claim", () -> x.claim(0, 1));
        }
    }

    private void runAll(int m) {
        int consumers = made();
        for (int i = 0; i < consumers; i++) {
            int consumer = i;
            add("run", () -> x.run(consumer, m));
        }
    }
}
