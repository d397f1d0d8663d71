/** Promise 13: grow. */
public final class Promise13GrowTest {
    private static final String END = "throws.IndexOutOfBoundsException";

    public static void main(String[] args) {
        aBitComesToTheQuotient();
        itemsStayThere();
        wrongNumbers();
        Check.done();
    }

    private static void aBitComesToTheQuotient() {
        FewBits bits = new FewBits();
        bits.make(0, 3, 2, 5);
        bits.add(0, Items.pair(2, 5, 1, 0b10011, 0));
        bits.add(0, Items.pair(2, 5, 1, 0b01010, 0));
        bits.add(0, Items.pair(2, 5, 3, 0b11111, 0));
        bits.add(0, Items.pair(2, 5, 3, 0b11111, 0));
        bits.grow(0);
        Check.due("a", bits.count(0, 1), 3);
        Check.due("b", bits.count(0, 2), 4);
        Check.due("how many", bits.count(0, 3), 4);
        Check.dueText("2: 10, 3: 3, 7: 15 and 15 moved to 0", Check.cells(bits, 0),
            (15 * 8 + 2 + 4) + " 0 " + (10 * 8 + 1) + " " + (3 * 8 + 1) + " 0 0 0 " + (15 * 8 + 1) + " " + END);
        Check.dueThrow("b is 4", IllegalArgumentException.class, () -> bits.grow(0));
        Check.due("a is as it was", bits.count(0, 1), 3);
    }

    private static void itemsStayThere() {
        FewBits bits = new FewBits();
        bits.make(0, 3, 2, 20);
        for (int a = 2; a < 8; a++) {
            bits.addAll(0, 0, 1, 400);
            Check.due("full", bits.count(0, 3), 1 << a);
            int there = bits.hasAll(0, 0, 1, 400);
            bits.grow(0);
            Check.due("there as before", bits.hasAll(0, 0, 1, 400), there);
            Check.due("as many as before", bits.count(0, 3), 1 << a);
            Check.due("b", bits.count(0, 2), 21 - a);
        }
        Check.due("room for as many again", bits.addAll(0, 1000, 1, 400), 128);
        Check.dueThrow("a is 8", IllegalArgumentException.class, () -> bits.grow(0));
        Check.due("b is as it was", bits.count(0, 2), 14);
        for (int i = 0; i < 128; i++) {
            Check.due("removed by its new pair", bits.remove(0, 1000L + i), 255 - i);
        }
    }

    private static void wrongNumbers() {
        FewBits bits = new FewBits();
        bits.make(0, 1, 3, 5);
        bits.make(1, 2, 3, 5);
        Check.dueThrow("counters", IllegalArgumentException.class, () -> bits.grow(0));
        Check.dueThrow("buckets", IllegalArgumentException.class, () -> bits.grow(1));
        Check.dueThrow("none", IllegalStateException.class, () -> bits.grow(2));
        Check.dueThrow("no number", IndexOutOfBoundsException.class, () -> bits.grow(4));
        Check.due("a of counters", bits.count(0, 1), 3);
        Check.due("b of buckets", bits.count(1, 2), 5);
    }
}
