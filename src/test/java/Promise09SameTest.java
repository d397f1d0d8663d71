/** Promise 9: same. */
public final class Promise09SameTest {
    public static void main(String[] args) {
        counters();
        buckets();
        runs();
        whateverItHas();
        wrongNumbers();
        Check.done();
    }

    private static void due(FewBits bits, String what, long x, long y, boolean want) {
        Check.due(what, bits.same(0, x, y), want);
        Check.due(what + ", the other way round", bits.same(0, y, x), want);
    }

    private static void counters() {
        FewBits bits = new FewBits();
        bits.make(0, 1, 3, 3);
        long x = Items.places(3, 1, 1, 2);
        due(bits, "itself", x, x, true);
        due(bits, "in another order", x, Items.places(3, 2, 1, 1), true);
        due(bits, "the same places, but not as often", x, Items.places(3, 1, 2, 2), false);
        due(bits, "another place", x, Items.places(3, 1, 1, 3), false);
        due(bits, "one place alone", x, Items.places(3, 1, 1, 1), false);
    }

    private static void buckets() {
        FewBits bits = new FewBits();
        bits.make(0, 2, 1, 4);
        long x = Items.print(1, 4, 8, 0, 0);
        due(bits, "itself", x, x, true);
        due(bits, "the same", x, Items.print(1, 4, 8, 0, 1), true);
        due(bits, "the same two buckets, the other one first", x, Items.print(1, 4, 8, 1, 0), true);
        due(bits, "another fingerprint", x, Items.print(1, 4, 10, 0, 0), false);
        due(bits, "0 and 1", Items.print(1, 4, 0, 0, 0), Items.print(1, 4, 1, 0, 0), true);
        due(bits, "another bucket", Items.print(1, 4, 14, 0, 0), Items.print(1, 4, 14, 1, 0), false);
    }

    private static void runs() {
        FewBits bits = new FewBits();
        bits.make(0, 3, 2, 4);
        long x = Items.pair(2, 4, 1, 5, 0);
        due(bits, "itself", x, x, true);
        due(bits, "the same", x, Items.pair(2, 4, 1, 5, 1), true);
        due(bits, "another quotient", x, Items.pair(2, 4, 2, 5, 0), false);
        due(bits, "another remainder", x, Items.pair(2, 4, 1, 4, 0), false);
    }

    private static void whateverItHas() {
        for (int kind = 1; kind <= 3; kind++) {
            FewBits bits = new FewBits();
            bits.make(0, kind, 3, 4);
            Check.due("empty", bits.same(0, 1, 2), false);
            bits.addAll(0, 0, 1, 400);
            Check.due("full", bits.same(0, 1, 2), false);
            Check.due("itself", bits.same(0, -1, -1), true);
        }
    }

    private static void wrongNumbers() {
        FewBits bits = new FewBits();
        Check.dueThrow("same(4, 0, 0)", IndexOutOfBoundsException.class, () -> bits.same(4, 0, 0));
        Check.dueThrow("same(0, 0, 0)", IllegalStateException.class, () -> bits.same(0, 0, 0));
    }
}
