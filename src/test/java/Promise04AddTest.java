/** Promise 4: add. */
public final class Promise04AddTest {
    private static final String END = "throws.IndexOutOfBoundsException";

    public static void main(String[] args) {
        counters();
        countersWithAPlaceTwice();
        buckets();
        fingerprintOfNoBits();
        pushedToAnotherBucket();
        pushedInVain();
        pushedSixtyFourTimes();
        runs();
        Check.done();
    }

    private static void counters() {
        FewBits bits = new FewBits();
        bits.make(0, 1, 3, 2);
        long x = Items.places(3, 2, 5);
        long beside = Items.places(3, 4, 5);
        for (int i = 1; i <= 15; i++) {
            Check.due("the " + i + "th time", bits.add(0, x), i);
        }
        Check.dueText("its cells", Check.cells(bits, 0), "0 0 15 0 0 15 0 0 " + END);
        Check.dueThrow("the 16th time", UnsupportedOperationException.class, () -> bits.add(0, x));
        Check.dueThrow("one counter is enough", UnsupportedOperationException.class, () -> bits.add(0, beside));
        Check.dueText("its cells", Check.cells(bits, 0), "0 0 15 0 0 15 0 0 " + END);
        Check.due("how many", bits.count(0, 3), 15);
        Check.due("elsewhere there is room", bits.add(0, Items.places(3, 0, 7)), 16);
    }

    private static void countersWithAPlaceTwice() {
        FewBits bits = new FewBits();
        bits.make(0, 1, 3, 3);
        long twice = Items.places(3, 6, 1, 6);
        for (int i = 1; i <= 7; i++) {
            Check.due("the " + i + "th time", bits.add(0, twice), i);
        }
        Check.dueText("its cells", Check.cells(bits, 0), "0 7 0 0 0 0 14 0 " + END);
        Check.dueThrow("14 and 2", UnsupportedOperationException.class, () -> bits.add(0, twice));
        Check.dueText("its cells", Check.cells(bits, 0), "0 7 0 0 0 0 14 0 " + END);
        Check.due("14 and 1", bits.add(0, Items.places(3, 6, 0, 1)), 8);
        Check.dueText("its cells", Check.cells(bits, 0), "1 8 0 0 0 0 15 0 " + END);
    }

    /** With a = 1 and b = 4 the fingerprints 5, 8, 10 and 11 have two buckets; 1, 6, 9, 12 and 14 have one. */
    private static void buckets() {
        FewBits bits = new FewBits();
        bits.make(0, 2, 1, 4);
        Check.due("first free slot", bits.add(0, Items.print(1, 4, 8, 1, 0)), 1);
        Check.due("the same again", bits.add(0, Items.print(1, 4, 8, 1, 1)), 2);
        Check.due("its first bucket is 0", bits.add(0, Items.print(1, 4, 8, 0, 0)), 3);
        Check.dueText("its cells", Check.cells(bits, 0), "8 0 0 0 8 8 0 0 " + END);
        bits.add(0, Items.print(1, 4, 9, 1, 0));
        bits.add(0, Items.print(1, 4, 12, 1, 0));
        Check.due("the first is full, the second is not", bits.add(0, Items.print(1, 4, 10, 1, 0)), 6);
        Check.dueText("its cells", Check.cells(bits, 0), "8 10 0 0 8 8 9 12 " + END);
        bits.remove(0, Items.print(1, 4, 9, 1, 0));
        bits.add(0, Items.print(1, 4, 11, 1, 0));
        Check.dueText("a free slot in the midst", Check.cells(bits, 0), "8 10 0 0 8 8 11 12 " + END);
        Check.due("none were pushed", bits.count(0, 5), 0);
    }

    private static void fingerprintOfNoBits() {
        FewBits bits = new FewBits();
        bits.make(0, 2, 1, 4);
        bits.add(0, Items.print(1, 4, 0, 1, 0));
        Check.dueText("0 becomes 1", Check.cells(bits, 0), "0 0 0 0 1 0 0 0 " + END);
    }

    private static FewBits firstBucketFull() {
        FewBits bits = new FewBits();
        bits.make(0, 2, 1, 4);
        bits.add(0, Items.print(1, 4, 14, 0, 0));
        bits.add(0, Items.print(1, 4, 9, 0, 0));
        bits.add(0, Items.print(1, 4, 10, 0, 0));
        bits.add(0, Items.print(1, 4, 6, 0, 0));
        return bits;
    }

    private static void pushedToAnotherBucket() {
        FewBits bits = firstBucketFull();
        Check.due("12 pushes 14, 14 pushes 9, 9 pushes 10", bits.add(0, Items.print(1, 4, 12, 0, 0)), 5);
        Check.dueText("its cells", Check.cells(bits, 0), "12 14 9 6 10 0 0 0 " + END);
        Check.due("how many were pushed", bits.count(0, 5), 3);
    }

    private static void pushedInVain() {
        FewBits bits = firstBucketFull();
        bits.add(0, Items.print(1, 4, 12, 0, 0));
        Check.dueThrow("14 has but one bucket", UnsupportedOperationException.class,
            () -> bits.add(0, Items.print(1, 4, 14, 0, 0)));
        Check.dueText("its cells", Check.cells(bits, 0), "12 14 9 6 10 0 0 0 " + END);
        Check.due("how many", bits.count(0, 3), 5);
        Check.due("how many were pushed", bits.count(0, 5), 67);
    }

    private static void pushedSixtyFourTimes() {
        FewBits bits = new FewBits();
        Model model = new Model();
        bits.make(0, 2, 5, 6);
        model.make(0, 2, 5, 6);
        Check.due("so far", bits.addAll(0, 7000, 1, 120), model.addAll(0, 7000, 1, 120));
        Check.due("pushed so far", bits.count(0, 5), 72);
        Check.due("the 64th finds a free slot", bits.add(0, 7120), model.add(0, 7120));
        Check.due("pushed then", bits.count(0, 5), 136);
        for (int i = 0; i < 128; i++) {
            Check.due("cell " + i, bits.cell(0, i), model.cell(0, i));
        }
    }

    private static void runs() {
        FewBits bits = new FewBits();
        bits.make(0, 3, 2, 4);
        long x = Items.pair(2, 4, 3, 9, 0);
        for (int i = 1; i <= 4; i++) {
            Check.due("the " + i + "th time", bits.add(0, x), i);
        }
        Check.dueText("its cells", Check.cells(bits, 0), "78 78 78 73 " + END);
        Check.dueThrow("as many pairs as slots", UnsupportedOperationException.class, () -> bits.add(0, x));
        Check.dueThrow("for another quotient, too", UnsupportedOperationException.class,
            () -> bits.add(0, Items.pair(2, 4, 0, 0, 0)));
        Check.dueText("its cells", Check.cells(bits, 0), "78 78 78 73 " + END);
        Check.due("how many", bits.count(0, 3), 4);
    }
}
