/** Promise 10: count. */
public final class Promise10CountTest {
    public static void main(String[] args) {
        counters();
        buckets();
        runs();
        wrongNumbers();
        Check.done();
    }

    private static void due(FewBits bits, String what, int... counts) {
        for (int i = 0; i < counts.length; i++) {
            Check.due(what + ": count " + i, bits.count(0, i), counts[i]);
        }
    }

    private static void counters() {
        FewBits bits = new FewBits();
        bits.make(0, 1, 3, 2);
        due(bits, "empty counters", 1, 3, 2, 0, 0, 0);
        bits.addAll(0, Items.places(3, 7, 7), 0, 3);
        bits.add(0, Items.places(3, 0, 7));
        due(bits, "counters", 1, 3, 2, 4, 2, 7);
        bits.remove(0, Items.places(3, 0, 7));
        due(bits, "one removed", 1, 3, 2, 3, 1, 6);
        bits.make(0, 1, 10, 6);
        due(bits, "the largest", 1, 10, 6, 0, 0, 0);
    }

    private static void buckets() {
        FewBits bits = new FewBits();
        bits.make(0, 2, 1, 4);
        due(bits, "empty buckets", 2, 1, 4, 0, 0, 0);
        long x = Items.print(1, 4, 14, 0, 0);
        bits.addAll(0, x, 0, 5);
        due(bits, "one refused", 2, 1, 4, 4, 4, 64);
        Check.dueThrow("another refused", UnsupportedOperationException.class, () -> bits.add(0, x));
        due(bits, "two refused", 2, 1, 4, 4, 4, 128);
        bits.remove(0, x);
        due(bits, "one removed", 2, 1, 4, 3, 3, 128);
        bits.add(0, x);
        due(bits, "not pushed", 2, 1, 4, 4, 4, 128);
    }

    private static void runs() {
        FewBits bits = new FewBits();
        bits.make(0, 3, 3, 5);
        due(bits, "empty runs", 3, 3, 5, 0, 0, 0);
        bits.add(0, Items.pair(3, 5, 2, 1, 0));
        bits.add(0, Items.pair(3, 5, 4, 1, 0));
        due(bits, "two rows of one", 3, 3, 5, 2, 2, 1);
        bits.add(0, Items.pair(3, 5, 2, 9, 0));
        due(bits, "one row of three", 3, 3, 5, 3, 3, 3);
        bits.add(0, Items.pair(3, 5, 7, 0, 0));
        bits.add(0, Items.pair(3, 5, 7, 0, 0));
        due(bits, "over the end: 7 and 0, beside 2 to 4", 3, 3, 5, 5, 5, 3);
        bits.add(0, Items.pair(3, 5, 7, 0, 0));
        due(bits, "over the end: 7 to 4", 3, 3, 5, 6, 6, 6);
        bits.addAll(0, Items.pair(3, 5, 0, 0, 0), 0, 2);
        due(bits, "full", 3, 3, 5, 8, 8, 8);
        bits.make(0, 3, 2, 4);
        bits.add(0, Items.pair(2, 4, 3, 0, 0));
        bits.add(0, Items.pair(2, 4, 0, 0, 0));
        due(bits, "the last slot and the first one, none moved", 3, 2, 4, 2, 2, 2);
    }

    private static void wrongNumbers() {
        FewBits bits = new FewBits();
        bits.make(0, 3, 2, 4);
        for (int what : new int[] {-1, 6, Integer.MIN_VALUE, Integer.MAX_VALUE}) {
            Check.dueThrow("what is " + what, IllegalArgumentException.class, () -> bits.count(0, what));
            Check.dueThrow("none", IllegalStateException.class, () -> bits.count(1, what));
            Check.dueThrow("no number", IndexOutOfBoundsException.class, () -> bits.count(4, what));
        }
    }
}
