/** The boundary cases of promise 12: what just has room, a filter and itself, and filters that do not fit. */
public final class Boundary12MergeTest {
    private static final Class<IllegalArgumentException> ARGUMENT = IllegalArgumentException.class;
    private static final Class<IndexOutOfBoundsException> INDEX = IndexOutOfBoundsException.class;
    private static final Class<IllegalStateException> STATE = IllegalStateException.class;
    private static final Class<UnsupportedOperationException> FULL = UnsupportedOperationException.class;
    private static final int[] NOTHING = {};

    public static void main(String[] args) {
        room();
        itself();
        notBothRuns();
        whichComesFirst();
        Check.done();
    }

    /** Filters 0 and 1 of runs, with the same numbers. */
    private static FewBits two(int[] ofF, int... ofG) {
        FewBits bits = Sample.runs(ofF);
        bits.make(1, 3, 2, 4);
        Sample.addPairs(bits, 1, 2, 4, ofG);
        return bits;
    }

    private static void room() {
        Check.test("nothing comes to nothing", () -> merged(two(NOTHING), 0, 0, 0, 0, 0));
        Check.test("nothing comes to a full one",
            () -> merged(two(new int[] {0, 1, 1, 2, 2, 3, 3, 4}), 4, 9, 17, 25, 33));
        Check.test("a full one comes to nothing", () -> merged(two(NOTHING, 0, 1, 1, 2, 2, 3, 3, 4), 4, 9, 17, 25, 33));
        Check.test("room for all: just", () -> merged(two(new int[] {1, 1, 3, 3}, 0, 0, 2, 2), 4, 1, 9, 17, 25));
        Check.test("room for all: the same pairs, as often as in both",
            () -> merged(two(new int[] {3, 9, 3, 9}, 3, 9), 3, 78, 78, 0, 73));
        Check.test("room for all: round about",
            () -> merged(two(new int[] {3, 9, 0, 5}, 3, 2, 0, 1), 4, 79, 12, 46, 17));
        Check.test("g stays as it is", Boundary12MergeTest::secondStays);
        Check.test("g is another one still: what comes to f later is not g's", Boundary12MergeTest::secondIsAnother);
        Check.test("there is no room for all: one too many", () -> noRoom(new int[] {1, 1, 3, 3, 3, 3}, 0, 0, 2, 2));
        Check.test("there is no room for all: one, to a full one", () -> noRoom(new int[] {1, 1, 1, 1, 1, 1, 1, 1}, 0, 0));
        Check.test("there is no room for all: two full ones",
            () -> noRoom(new int[] {1, 1, 1, 1, 1, 1, 1, 1}, 2, 2, 2, 2, 2, 2, 2, 2));
        Check.test("room for all: just 256", Boundary12MergeTest::just256);
        Check.test("other filters stay as they are", Boundary12MergeTest::othersStay);
    }

    private static void merged(FewBits bits, int want, int... cells) {
        Check.due("merge", bits.merge(0, 1), want);
        Check.due("how many", bits.count(0, 3), want);
        Check.due("slots that have something", bits.count(0, 4), want);
        Check.dueCells("its slots", bits, 0, cells);
    }

    private static void secondStays() {
        FewBits bits = two(new int[] {1, 1, 3, 3}, 0, 0, 2, 2);
        bits.merge(0, 1);
        Check.dueCells("its slots", bits, 1, 1, 0, 17, 0);
        Check.due("how many", bits.count(1, 3), 2);
    }

    private static void secondIsAnother() {
        FewBits bits = two(NOTHING, 0, 0);
        bits.merge(0, 1);
        bits.add(0, Items.pair(2, 4, 2, 2, 0));
        Check.dueCells("g", bits, 1, 1, 0, 0, 0);
        bits.clear(1);
        Check.dueCells("f", bits, 0, 1, 0, 17, 0);
    }

    private static void noRoom(int[] ofF, int... ofG) {
        Check.refused("merge", FULL, () -> two(ofF, ofG), bits -> bits.merge(0, 1));
        Check.refused("merge, the other way round", FULL, () -> two(ofF, ofG), bits -> bits.merge(1, 0));
    }

    private static FewBits large(int ofG) {
        FewBits bits = Sample.one(0, 3, 8, 20);
        bits.make(1, 3, 8, 20);
        bits.addAll(0, 0, 1, 128);
        bits.addAll(1, 128, 1, ofG);
        return bits;
    }

    private static void just256() {
        FewBits bits = large(128);
        Check.due("128 and 128", bits.merge(0, 1), 256);
        Check.due("all are there", bits.hasAll(0, 0, 1, 256), 256);
        FewBits more = large(129);
        Check.dueThrow("128 and 129", FULL, () -> more.merge(0, 1));
        Check.due("how many", more.count(0, 3), 128);
        Check.due("none came", more.has(0, 128), false);
    }

    private static void othersStay() {
        FewBits bits = Sample.some();
        bits.make(3, 3, 2, 5);
        Check.due("merge", bits.merge(3, 2), 2);
        FewBits untouched = Sample.some();
        for (int f = 0; f < 3; f++) {
            Check.dueText("the cells of " + f, Check.cells(bits, f), Check.cells(untouched, f));
        }
        Check.dueText("the cells of 3", Check.cells(bits, 3), Check.cells(untouched, 2));
    }

    private static void itself() {
        Check.test("(g may be f.) of nothing", () -> doubled(Sample.runs(), 0, 0, 0, 0, 0));
        Check.test("(g may be f.) of one pair", () -> doubled(Sample.runs(3, 5), 2, 46, 0, 0, 41));
        Check.test("(g may be f.) just room for all", () -> doubled(Sample.runs(0, 1, 2, 3), 4, 9, 14, 25, 30));
        Check.test("(g may be f.) just room for all, one run", () -> doubled(Sample.runs(1, 1, 1, 3), 4, 30, 9, 14, 30));
        Check.test("(g may be f.) no room for all", () -> Check.refused("merge", FULL,
            () -> Sample.runs(0, 1, 2, 3, 3, 4), bits -> bits.merge(0, 0)));
        Check.test("(g may be f.) no room for all, a full one",
            () -> Check.refused("merge", FULL, Sample::full, bits -> bits.merge(2, 2)));
        Check.test("(g may be f.) but not of counters",
            () -> Check.refused("merge", ARGUMENT, Sample::some, bits -> bits.merge(0, 0)));
        Check.test("(g may be f.) but not of buckets",
            () -> Check.refused("merge", ARGUMENT, Sample::some, bits -> bits.merge(1, 1)));
    }

    private static void doubled(FewBits bits, int want, int... cells) {
        Check.due("merge", bits.merge(0, 0), want);
        Check.due("how many", bits.count(0, 3), want);
        Check.dueCells("its slots", bits, 0, cells);
    }

    private static void notBothRuns() {
        Check.test("not both runs: f is of counters", () -> doNotFit(0, 2));
        Check.test("not both runs: g is of counters", () -> doNotFit(2, 0));
        Check.test("not both runs: f is of buckets", () -> doNotFit(1, 2));
        Check.test("not both runs: g is of buckets", () -> doNotFit(2, 1));
        Check.test("not both runs: counters and buckets", () -> doNotFit(0, 1));
        Check.test("not both runs: both of buckets, with the same a and b", () -> otherNumbers(2, 2, 5, 2, 5));
        Check.test("not with the same a and b: another a", () -> otherNumbers(3, 2, 5, 3, 5));
        Check.test("not with the same a and b: another b", () -> otherNumbers(3, 2, 5, 2, 6));
        Check.test("not with the same a and b: as many bits in all", () -> otherNumbers(3, 2, 5, 3, 4));
        Check.test("with the same a and b: when one has grown", Boundary12MergeTest::grown);
    }

    private static void doNotFit(int f, int g) {
        Check.refused("merge", ARGUMENT, Sample::some, bits -> bits.merge(f, g));
    }

    private static void otherNumbers(int kind, int a, int b, int otherA, int otherB) {
        Check.Maker maker = () -> {
            FewBits bits = Sample.one(0, kind, a, b);
            bits.make(1, kind, otherA, otherB);
            bits.addAll(0, 0, 1, 2);
            bits.addAll(1, 0, 1, 2);
            return bits;
        };
        Check.refused("merge", ARGUMENT, maker, bits -> bits.merge(0, 1));
        Check.refused("merge, the other way round", ARGUMENT, maker, bits -> bits.merge(1, 0));
    }

    private static void grown() {
        FewBits bits = Sample.one(0, 3, 2, 5);
        bits.make(1, 3, 3, 4);
        bits.add(0, Items.pair(2, 5, 3, 31, 0));
        bits.add(1, Items.pair(3, 4, 7, 14, 0));
        Check.dueThrow("before", ARGUMENT, () -> bits.merge(0, 1));
        bits.grow(0);
        Check.due("then", bits.merge(0, 1), 2);
        Check.dueCells("its slots", bits, 0, 126, 0, 0, 0, 0, 0, 0, 113);
    }

    private static void whichComesFirst() {
        first("no such f", INDEX, 4, 2);
        first("no such g", INDEX, 2, 4);
        first("no such f, below 0", INDEX, -1, 2);
        first("no such g, below 0", INDEX, 2, -1);
        first("neither is a number", INDEX, -1, 4);
        first("f is none, and no such g", INDEX, 3, 4);
        first("no such f, and g is none", INDEX, 4, 3);
        first("f is of counters, and no such g", INDEX, 0, 4);
        first("f is none", STATE, 3, 2);
        first("g is none", STATE, 2, 3);
        first("both are none", STATE, 3, 3);
        first("f is of counters, and g is none", STATE, 0, 3);
        first("f is none, and g is of buckets", STATE, 3, 1);
        Check.test("the one named first: another b, and no room", () -> Check.refused("merge", ARGUMENT, () -> {
            FewBits bits = Sample.full();
            bits.make(3, 3, 2, 6);
            bits.addAll(3, 0, 1, 4);
            return bits;
        }, bits -> bits.merge(2, 3)));
    }

    private static void first(String what, Class<? extends RuntimeException> want, int f, int g) {
        Check.test("the one named first: " + what,
            () -> Check.refused("merge", want, Sample::some, bits -> bits.merge(f, g)));
    }
}
