/** Promise 1: a ring has 4, 8 or 16 slots, and 8 when it is asked for others. */
public final class NewObjectTest {
    public static void main(String[] args) {
        int[] asked = {4, 8, 16, 0, 1, 3, 5, 7, 9, 12, 15, 17, 32, -4, -8, -16,
            Integer.MAX_VALUE, Integer.MIN_VALUE};
        for (int slots : asked) {
            int due = slots == 4 || slots == 16 ? slots : 8;
            RingPipeline x = new RingPipeline(slots);
            Due.due("cursor of " + slots, -1L, () -> x.state(0, 0));
            Due.due("available of " + slots, -1L, () -> x.state(1, 0));
            for (int i = 0; i < 16; i++) {
                int sequence = i;
                Due.due("slot " + i + " of " + slots, -1L, () -> x.state(2, sequence));
            }
            Due.due("replayed of " + slots, 0L, x::replayed);
            Due.due("no consumer in " + slots, Due.ARGUMENT, () -> x.place(0));
            Due.due("claim all and one of " + slots, Due.ARGUMENT, () -> x.claim(0, due + 1));
            Due.due("claim all of " + slots, 0L, () -> x.claim(0, due));
            Due.due("claim one more of " + slots, Due.STATE, () -> x.claim(0, 1));
        }
        Due.finish();
    }
}
