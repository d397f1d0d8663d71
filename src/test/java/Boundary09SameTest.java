/** The boundary cases of promise 9: what a filter just can, and just cannot tell apart. */
public final class Boundary09SameTest {
    private static final Class<IndexOutOfBoundsException> INDEX = IndexOutOfBoundsException.class;
    private static final Class<IllegalStateException> STATE = IllegalStateException.class;

    public static void main(String[] args) {
        for (int f = 0; f < 3; f++) {
            int filter = f;
            Check.test("an item and itself, kind " + (f + 1), () -> itself(filter));
            Check.test("whatever it has: nothing, or all, kind " + (f + 1), () -> whateverItHas(filter));
            Check.test("it is a question: nothing is changed, kind " + (f + 1), () -> changesNothing(filter));
        }
        counters();
        buckets();
        runs();
        Check.test("the one named first: no such number", () -> noSuchFilter(INDEX, -1, 4));
        Check.test("the one named first: it is none", () -> noSuchFilter(STATE, 3));
        Check.done();
    }

    private static void due(FewBits bits, long x, long y, boolean want) {
        Check.due("same", bits.same(0, x, y), want);
        Check.due("same, the other way round", bits.same(0, y, x), want);
    }

    private static void itself(int f) {
        for (long x : new long[] {0, -1, Long.MIN_VALUE, Long.MAX_VALUE}) {
            Check.due("same of " + x, Sample.empty().same(f, x, x), true);
        }
    }

    private static void whateverItHas(int f) {
        for (long y = 0; y < 60; y++) {
            boolean empty = Sample.empty().same(f, 7, y);
            Check.due("7 and " + y, Sample.full().same(f, 7, y), empty);
        }
    }

    private static void changesNothing(int f) {
        FewBits bits = Sample.some();
        bits.same(f, 1, 2);
        bits.same(f, 1, 1);
        Check.dueText("the state", Check.state(bits), Check.state(Sample.some()));
    }

    private static void counters() {
        Check.test("the same places: one, the same", () -> places(true, new int[] {7}, 7));
        Check.test("the same places: one, another", () -> places(false, new int[] {7}, 6));
        Check.test("the same places: in another order", () -> places(true, new int[] {0, 7, 3}, 7, 3, 0));
        Check.test("the same places: the last is another", () -> places(false, new int[] {0, 7, 3}, 0, 7, 4));
        Check.test("each as often: twice and once", () -> places(false, new int[] {5, 5, 6}, 5, 6, 6));
        Check.test("each as often: in another order", () -> places(true, new int[] {5, 5, 6}, 6, 5, 5));
        Check.test("each as often: one place alone, and another beside it",
            () -> places(false, new int[] {5, 5, 5}, 5, 5, 6));
        Check.test("each as often: six places", () -> places(true, new int[] {1, 1, 1, 2, 2, 3}, 3, 2, 1, 2, 1, 1));
        Check.test("each as often: six places, but not",
            () -> places(false, new int[] {1, 1, 1, 2, 2, 3}, 3, 2, 1, 2, 1, 3));
        Check.test("a place that b does not reach does not matter", Boundary09SameTest::placeNotReached);
    }

    private static void places(boolean want, int[] ofX, int... ofY) {
        due(Sample.counters(3, ofX.length), Items.places(3, ofX), Items.places(3, ofY), want);
    }

    private static void placeNotReached() {
        due(Sample.counters(3, 2), Items.places(3, 1, 2, 3), Items.places(3, 1, 2, 4), true);
        due(Sample.counters(3, 3), Items.places(3, 1, 2, 3), Items.places(3, 1, 2, 4), false);
    }

    private static void buckets() {
        Check.test("the same fingerprint and buckets", () -> prints(true, 12, 0, 12, 0));
        // The document asks for the same buckets, not for the same first one.
        Check.test("the same fingerprint and buckets, the second one first", () -> prints(true, 12, 0, 12, 2));
        Check.test("the same fingerprint, other buckets", () -> prints(false, 12, 0, 12, 1));
        Check.test("the same fingerprint, both buckets the same one", () -> prints(true, 13, 3, 13, 3));
        Check.test("the same fingerprint, another bucket that is both", () -> prints(false, 13, 3, 13, 1));
        Check.test("the same buckets, another fingerprint", () -> prints(false, 12, 0, 14, 0));
        Check.test("(1 if that is 0): 0 and 1 in the same buckets", () -> prints(true, 0, 0, 1, 0));
        Check.test("(1 if that is 0): 0 and 1, the second one first", () -> prints(true, 0, 0, 1, 2));
        Check.test("(1 if that is 0): 0 and 1 in other buckets", () -> prints(false, 0, 0, 1, 1));
        Check.test("all 16 bits of a fingerprint", Boundary09SameTest::sixteenBits);
    }

    private static void prints(boolean want, int ofX, int firstOfX, int ofY, int firstOfY) {
        due(Sample.buckets(), Items.print(2, 4, ofX, firstOfX, 0), Items.print(2, 4, ofY, firstOfY, 1), want);
    }

    private static void sixteenBits() {
        FewBits bits = Sample.one(0, 2, 1, 16);
        long x = Items.print(1, 16, 65535, 0, 0);
        due(bits, x, Items.print(1, 16, 65535, 0, 1), true);
        due(bits, x, Items.print(1, 16, 65534, 0, 0), false);
        due(bits, x, Items.print(1, 16, 32767, 0, 0), false);
    }

    private static void runs() {
        Check.test("the same pair: bits behind the remainder do not matter", () -> mixes(2, 4, true, 0));
        Check.test("the same pair: the lowest bit of the remainder, 2 and 4", () -> mixes(2, 4, false, 58));
        Check.test("the same pair: the highest bit of the quotient, 2 and 4", () -> mixes(2, 4, false, 63));
        Check.test("the same pair: the bit behind the remainder, 2 and 4", () -> mixes(2, 4, true, 57));
        Check.test("the same pair: the lowest bit of the remainder, 8 and 20", () -> mixes(8, 20, false, 36));
        Check.test("the same pair: the bit behind the remainder, 8 and 20", () -> mixes(8, 20, true, 35));
        Check.test("the same pair: also when it has grown", Boundary09SameTest::grown);
    }

    private static void mixes(int a, int b, boolean want, int bit) {
        long mix = 0x1357_9BDF_0246_8ACEL;
        due(Sample.one(0, 3, a, b), Items.mixingTo(mix), Items.mixingTo(mix ^ 1L << bit), want);
    }

    private static void grown() {
        FewBits bits = Sample.one(0, 3, 2, 5);
        bits.grow(0);
        due(bits, Items.mixingTo(0), Items.mixingTo(1L << 57), false);
        due(bits, Items.mixingTo(0), Items.mixingTo(1L << 56), true);
    }

    private static void noSuchFilter(Class<? extends RuntimeException> want, int... numbers) {
        for (int f : numbers) {
            Check.refused("same of " + f, want, Sample::some, bits -> bits.same(f, 0, 0));
        }
    }
}
