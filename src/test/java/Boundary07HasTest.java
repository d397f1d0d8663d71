/** The boundary cases of promise 7: what is just there and what just is not, of an empty and of a full filter. */
public final class Boundary07HasTest {
    private static final Class<IndexOutOfBoundsException> INDEX = IndexOutOfBoundsException.class;
    private static final Class<IllegalStateException> STATE = IllegalStateException.class;

    public static void main(String[] args) {
        for (int kind = 1; kind <= 3; kind++) {
            int f = kind - 1;
            Check.test("of an empty one, kind " + kind, () -> ofAnEmptyOne(f));
            Check.test("it is a question: nothing is changed, kind " + kind, () -> changesNothing(f));
        }
        counters();
        buckets();
        runs();
        Check.test("the one named first: no such number", () -> noSuchFilter(INDEX, -1, 4));
        Check.test("the one named first: it is none", () -> noSuchFilter(STATE, 3));
        Check.done();
    }

    private static void ofAnEmptyOne(int f) {
        for (long x : new long[] {0, 1, -1, Long.MIN_VALUE, Long.MAX_VALUE}) {
            Check.due("has " + x, Sample.empty().has(f, x), false);
        }
    }

    private static void changesNothing(int f) {
        FewBits bits = Sample.some();
        for (long x = 0; x < 20; x++) {
            bits.has(f, x);
        }
        Check.dueText("the state", Check.state(bits), Check.state(Sample.some()));
    }

    private static void counters() {
        Check.test("all its counters are above 0: they are 1", () -> counted(true, 1, 2, 3));
        Check.test("all its counters are above 0: the first is not", () -> counted(false, 0, 2, 3));
        Check.test("all its counters are above 0: the last is not", () -> counted(false, 1, 2, 0));
        Check.test("all its counters are above 0: the same one for each place", () -> counted(true, 2, 2, 2));
        Check.test("all its counters are above 0: back to 0", Boundary07HasTest::backToZero);
        Check.test("all its counters are above 0: each is 15, so all items are there", Boundary07HasTest::fullCounters);
    }

    private static void counted(boolean want, int... places) {
        FewBits bits = Sample.counters(3, 3);
        bits.add(0, Items.places(3, 3, 1, 2));
        Check.due("has", bits.has(0, Items.places(3, places)), want);
    }

    private static void backToZero() {
        FewBits bits = Sample.counters(3, 1);
        bits.addAll(0, Items.places(3, 4), 0, 2);
        bits.remove(0, Items.places(3, 4));
        Check.due("1", bits.has(0, Items.places(3, 4)), true);
        bits.remove(0, Items.places(3, 4));
        Check.due("0", bits.has(0, Items.places(3, 4)), false);
    }

    private static void fullCounters() {
        FewBits bits = Sample.full();
        for (long x = -20; x < 20; x++) {
            Check.due("has " + x, bits.has(0, x), true);
        }
    }

    private static void buckets() {
        Check.test("in a slot of one of them: slot 0 of the first", () -> found(true, 0, 0));
        Check.test("in a slot of one of them: slot 3 of the first", () -> found(true, 0, 0, 13, 13, 13));
        Check.test("in a slot of one of them: slot 0 of the second", () -> found(true, 2, 0));
        Check.test("in a slot of one of them: slot 3 of the second", () -> found(true, 2, 0, 13, 13, 13));
        Check.test("in a slot of one of them: it is in others alone", () -> found(false, 1, 0));
        Check.test("in a slot of one of them: from the last bucket", () -> found(false, 3, 0));
        Check.test("the same bucket twice: it is there", () -> selves(0, true));
        Check.test("the same bucket twice: it is elsewhere", () -> selves(1, false));
        Check.test("(1 if that is 0): 0 finds 1", () -> zeroAndOne(1, 0));
        Check.test("(1 if that is 0): 1 finds 0", () -> zeroAndOne(0, 1));
        Check.test("an empty slot is no fingerprint 0", () -> found(Sample.one(0, 2, 1, 4), 0, false));
        Check.test("of a full one: not all are there", Boundary07HasTest::fullBuckets);
    }

    private static void found(FewBits bits, int high, boolean want) {
        Check.due("has", bits.has(0, Items.print(1, 4, high, 0, 0)), want);
    }

    /** Looks from a first bucket for 12, which is in a bucket behind others; its other bucket is two away. */
    private static void found(boolean want, int first, int bucket, int... before) {
        int[][] prints = new int[4][0];
        prints[bucket] = new int[before.length + 1];
        System.arraycopy(before, 0, prints[bucket], 0, before.length);
        prints[bucket][before.length] = 12;
        Check.due("has", Sample.buckets(prints).has(0, Items.print(2, 4, 12, first, 1)), want);
    }

    private static void selves(int first, boolean want) {
        Check.due("has", Sample.buckets(new int[] {13}).has(0, Items.print(2, 4, 13, first, 1)), want);
    }

    private static void zeroAndOne(int added, int asked) {
        Check.due("has", Sample.buckets(new int[] {added}).has(0, Items.print(2, 4, asked, 0, 0)), true);
    }

    private static void fullBuckets() {
        FewBits bits = Sample.full();
        Check.due("14 in bucket 0", bits.has(1, Items.print(1, 4, 14, 0, 0)), true);
        Check.due("14 in bucket 1", bits.has(1, Items.print(1, 4, 14, 1, 0)), false);
        Check.due("8", bits.has(1, Items.print(1, 4, 8, 0, 0)), false);
    }

    private static void runs() {
        Check.test("its pair is there: the least", () -> paired(true, 0, 0));
        Check.test("its pair is there: the greatest", () -> paired(true, 3, 15));
        Check.test("its pair is not there: the remainder is one more", () -> paired(false, 0, 1));
        Check.test("its pair is not there: the remainder is one less", () -> paired(false, 3, 14));
        Check.test("its pair is not there: the quotient is another", () -> paired(false, 1, 0));
        Check.test("its pair is there: moved over the end", Boundary07HasTest::movedOverTheEnd);
        Check.test("its pair is there: bits behind the remainder do not matter", Boundary07HasTest::bitsBehind);
        Check.test("of a full one: not all are there", Boundary07HasTest::fullRuns);
    }

    private static void paired(boolean want, int quotient, int remainder) {
        FewBits bits = Sample.runs(0, 0, 3, 15);
        Check.due("has", bits.has(0, Items.pair(2, 4, quotient, remainder, 0)), want);
    }

    private static void movedOverTheEnd() {
        FewBits bits = Sample.runs(3, 1, 3, 2, 3, 3);
        Check.due("the first", bits.has(0, Items.pair(2, 4, 3, 1, 0)), true);
        Check.due("the last", bits.has(0, Items.pair(2, 4, 3, 3, 0)), true);
        Check.due("what would lie in slot 0 by its own", bits.has(0, Items.pair(2, 4, 0, 2, 0)), false);
    }

    private static void bitsBehind() {
        FewBits bits = Sample.one(0, 3, 8, 20);
        long mix = 0xABCDEF1L << 36;
        bits.add(0, Items.mixingTo(mix));
        Check.due("all bits behind are 1", bits.has(0, Items.mixingTo(mix | (1L << 36) - 1)), true);
        Check.due("the lowest bit of the remainder", bits.has(0, Items.mixingTo(mix ^ 1L << 36)), false);
        Check.due("the highest bit of the remainder", bits.has(0, Items.mixingTo(mix ^ 1L << 55)), false);
        Check.due("the lowest bit of the quotient", bits.has(0, Items.mixingTo(mix ^ 1L << 56)), false);
        Check.due("the highest bit of the quotient", bits.has(0, Items.mixingTo(mix ^ 1L << 63)), false);
    }

    private static void fullRuns() {
        FewBits bits = Sample.full();
        Check.due("what was added", bits.has(2, Items.pair(2, 5, 1, 16, 0)), true);
        Check.due("another remainder", bits.has(2, Items.pair(2, 5, 1, 17, 0)), false);
        Check.due("another quotient", bits.has(2, Items.pair(2, 5, 2, 16, 0)), false);
    }

    private static void noSuchFilter(Class<? extends RuntimeException> want, int... numbers) {
        for (int f : numbers) {
            Check.refused("has of " + f, want, Sample::some, bits -> bits.has(f, 0));
        }
    }
}
