/** Promise 2: consumer. */
public final class ConsumerTest {
    public static void main(String[] args) {
        numbers();
        wrongArguments();
        hangingOn();
        pools();
        eightAtMost();
        notBehindAClaim();
        argumentsBeforeState();
        Due.finish();
    }

    private static void numbers() {
        RingPipeline x = new RingPipeline(8);
        for (int kind = 0; kind < 4; kind++) {
            int k = kind;
            Due.due("consumer of kind " + k, k, () -> x.consumer(k, 0, k % 3, Make.NONE));
            Due.due("place of a new one", -1L, () -> x.place(k));
            Due.due("total of a new one", 0L, () -> x.total(k));
            for (int what = 0; what < 4; what++) {
                int w = what;
                Due.due("count " + w + " of a new one", 0, () -> x.count(k, w));
            }
        }
        Due.due("level of a new one", 0f, () -> x.level(1));
        Due.due("mean of a new one", 0.0, () -> x.mean(2));
    }

    private static void wrongArguments() {
        RingPipeline x = new RingPipeline(8);
        int[] wrongKinds = {-1, 4, Integer.MIN_VALUE, Integer.MAX_VALUE};
        for (int kind : wrongKinds) {
            Due.due("kind " + kind, Due.ARGUMENT, () -> x.consumer(kind, 0, 0, -1));
        }
        int[] wrongPolicies = {-1, 3, Integer.MIN_VALUE, Integer.MAX_VALUE};
        for (int policy : wrongPolicies) {
            Due.due("policy " + policy, Due.ARGUMENT, () -> x.consumer(0, 0, policy, -1));
        }
        int[] wrongPools = {-2, 2, Integer.MIN_VALUE, Integer.MAX_VALUE};
        for (int pool : wrongPools) {
            Due.due("pool " + pool, Due.ARGUMENT, () -> x.consumer(0, 0, 0, pool));
        }
        Due.due("none was made", Due.ARGUMENT, () -> x.place(0));
        Due.due("the first that is right", 0, () -> x.consumer(0, 0, 0, -1));
    }

    private static void hangingOn() {
        RingPipeline x = new RingPipeline(8);
        int[] tooMany = {1, 2, 256, Integer.MIN_VALUE, -1};
        for (int on : tooMany) {
            Due.due("on " + on + " with none", Due.ARGUMENT, () -> x.consumer(0, on, 0, -1));
        }
        x.consumer(0, 0, 0, -1);
        Due.due("on itself", Due.ARGUMENT, () -> x.consumer(0, 2, 0, -1));
        Due.due("on one and itself", Due.ARGUMENT, () -> x.consumer(0, 3, 0, -1));
        Due.due("on a negative number", Due.ARGUMENT, () -> x.consumer(0, Integer.MIN_VALUE + 1, 0, -1));
        Due.due("on the first", 1, () -> x.consumer(0, 1, 0, -1));
        Due.due("on both", 2, () -> x.consumer(0, 3, 0, -1));
    }

    private static void pools() {
        RingPipeline x = new RingPipeline(8);
        x.consumer(0, 0, 0, -1);
        Due.due("REWIND, first of a pool", Due.ARGUMENT, () -> x.consumer(0, 1, 2, 0));
        Due.due("first of pool 0", 1, () -> x.consumer(0, 1, 0, 0));
        Due.due("others than the first", Due.ARGUMENT, () -> x.consumer(0, 0, 0, 0));
        Due.due("more than the first", Due.ARGUMENT, () -> x.consumer(0, 3, 0, 0));
        Due.due("REWIND in a pool", Due.ARGUMENT, () -> x.consumer(0, 1, 2, 0));
        Due.due("second of pool 0", 2, () -> x.consumer(1, 1, 1, 0));
        Due.due("first of pool 1, on others", 3, () -> x.consumer(2, 2, 0, 1));
        Due.due("pool 1 is not pool 0", Due.ARGUMENT, () -> x.consumer(2, 1, 0, 1));
        Due.due("second of pool 1", 4, () -> x.consumer(3, 2, 1, 1));
        Due.due("REWIND in no pool", 5, () -> x.consumer(3, 2, 2, -1));
    }

    private static void eightAtMost() {
        RingPipeline x = new RingPipeline(8);
        for (int i = 0; i < 8; i++) {
            int number = i;
            Due.due("consumer " + i, number, () -> x.consumer(0, (1 << number) - 1, 0, -1));
        }
        Due.due("a ninth", Due.STATE, () -> x.consumer(0, 0, 0, -1));
        Due.due("a ninth on all", Due.STATE, () -> x.consumer(0, 255, 0, -1));
        Due.due("no ninth was made", Due.ARGUMENT, () -> x.place(8));
    }

    private static void notBehindAClaim() {
        RingPipeline x = new RingPipeline(8);
        Due.due("a claim of none", Due.ARGUMENT, () -> x.claim(0, 0));
        Due.due("a wrong claim is none", 0, () -> x.consumer(0, 0, 0, -1));
        x.claim(0, 1);
        Due.due("behind a claim", Due.STATE, () -> x.consumer(0, 0, 0, -1));
        Due.due("no other was made", Due.ARGUMENT, () -> x.place(1));
    }

    private static void argumentsBeforeState() {
        RingPipeline x = new RingPipeline(8);
        x.claim(0, 1);
        Due.due("wrong kind behind a claim", Due.ARGUMENT, () -> x.consumer(4, 0, 0, -1));
        Due.due("wrong on behind a claim", Due.ARGUMENT, () -> x.consumer(0, 1, 0, -1));
        Due.due("wrong pool behind a claim", Due.ARGUMENT, () -> x.consumer(0, 0, 2, 1));
    }
}
