/** Promise 7: has. */
public final class Promise07HasTest {
    public static void main(String[] args) {
        counters();
        buckets();
        runs();
        allThatWereAdded();
        Check.done();
    }

    private static void counters() {
        FewBits bits = new FewBits();
        bits.make(0, 1, 3, 2);
        Check.due("empty", bits.has(0, Items.places(3, 0, 0)), false);
        bits.add(0, Items.places(3, 0, 1));
        bits.add(0, Items.places(3, 2, 3));
        Check.due("was added", bits.has(0, Items.places(3, 0, 1)), true);
        Check.due("was not, but its counters are above 0", bits.has(0, Items.places(3, 3, 0)), true);
        Check.due("one counter, twice", bits.has(0, Items.places(3, 2, 2)), true);
        Check.due("the second place is 0", bits.has(0, Items.places(3, 0, 4)), false);
        Check.due("the first place is 0", bits.has(0, Items.places(3, 4, 0)), false);
    }

    private static void buckets() {
        FewBits bits = new FewBits();
        bits.make(0, 2, 1, 4);
        Check.due("empty", bits.has(0, Items.print(1, 4, 1, 0, 0)), false);
        bits.add(0, Items.print(1, 4, 8, 0, 0));
        bits.add(0, Items.print(1, 4, 14, 0, 0));
        Check.due("from its first bucket", bits.has(0, Items.print(1, 4, 8, 0, 0)), true);
        Check.due("one that looks the same", bits.has(0, Items.print(1, 4, 8, 0, 1)), true);
        Check.due("from its second bucket", bits.has(0, Items.print(1, 4, 8, 1, 0)), true);
        Check.due("its only bucket is another", bits.has(0, Items.print(1, 4, 14, 1, 0)), false);
        Check.due("another fingerprint", bits.has(0, Items.print(1, 4, 10, 0, 0)), false);
        bits.add(0, Items.print(1, 4, 1, 0, 0));
        Check.due("0 looks like 1", bits.has(0, Items.print(1, 4, 0, 0, 0)), true);
    }

    private static void runs() {
        FewBits bits = new FewBits();
        bits.make(0, 3, 2, 4);
        Check.due("empty", bits.has(0, Items.pair(2, 4, 0, 0, 0)), false);
        bits.add(0, Items.pair(2, 4, 1, 5, 0));
        bits.add(0, Items.pair(2, 4, 1, 9, 0));
        Check.due("was added", bits.has(0, Items.pair(2, 4, 1, 9, 0)), true);
        Check.due("one that looks the same", bits.has(0, Items.pair(2, 4, 1, 5, 1)), true);
        Check.due("another quotient", bits.has(0, Items.pair(2, 4, 2, 9, 0)), false);
        Check.due("between", bits.has(0, Items.pair(2, 4, 1, 6, 0)), false);
        Check.due("behind", bits.has(0, Items.pair(2, 4, 3, 15, 0)), false);
        bits.remove(0, Items.pair(2, 4, 1, 9, 0));
        Check.due("removed", bits.has(0, Items.pair(2, 4, 1, 9, 0)), false);
    }

    private static void allThatWereAdded() {
        for (int kind = 1; kind <= 3; kind++) {
            FewBits bits = new FewBits();
            bits.make(0, kind, 7, 5);
            for (long i = 0; i < 100; i++) {
                bits.add(0, i * i * Long.MAX_VALUE);
            }
            for (long i = 0; i < 100; i++) {
                Check.due("kind " + kind + ", " + i, bits.has(0, i * i * Long.MAX_VALUE), true);
            }
        }
    }
}
