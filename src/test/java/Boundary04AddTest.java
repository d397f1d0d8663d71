/** The boundary cases of promise 4: what an item just has room for, and what is FULL. */
public final class Boundary04AddTest {
    private static final Class<UnsupportedOperationException> FULL = UnsupportedOperationException.class;
    private static final Class<IndexOutOfBoundsException> INDEX = IndexOutOfBoundsException.class;
    private static final Class<IllegalStateException> STATE = IllegalStateException.class;
    private static final int[] SELVES = {13, 13, 13, 13};

    public static void main(String[] args) {
        counters();
        bucketsWithRoom();
        bucketsPushed();
        runs();
        Check.test("the one named first: no such number", () -> noSuchFilter(INDEX, -1, 4));
        Check.test("the one named first: it is none", () -> noSuchFilter(STATE, 3));
        Check.done();
    }

    private static void counters() {
        Check.test("each 0 .. 15: up to 15", Boundary04AddTest::upToFifteen);
        Check.test("refused if one would be above 15: 16", () -> countersFull(15, 15, 5));
        Check.test("refused if one would be above 15: the first place alone", () -> countersFull(15, 0, 5));
        Check.test("refused if one would be above 15: the last place alone", () -> countersFull(0, 15, 5));
        Check.test("once for each place, two are the same: 13 and 2", Boundary04AddTest::thirteenAndTwo);
        Check.test("once for each place, two are the same: 14 and 2", Boundary04AddTest::fourteenAndTwo);
        Check.test("once for each place, all six are the same", Boundary04AddTest::sixTimes);
        Check.test("b places: one", () -> places(Items.places(3, 7, 1), 1, 0, 0, 0, 0, 0, 0, 0, 1));
        Check.test("b places: six", () -> places(Items.places(3, 0, 1, 2, 3, 4, 5), 6, 1, 1, 1, 1, 1, 1, 0, 0));
        Check.test("the lowest a bits: all of 10", Boundary04AddTest::lastOfManyCounters);
        Check.test("a full filter of counters refuses all", () -> fullRefuses(0));
    }

    private static void upToFifteen() {
        FewBits bits = Sample.counters(3, 1);
        long x = Items.places(3, 4);
        for (int i = 1; i <= 15; i++) {
            Check.due("time " + i, bits.add(0, x), i);
            Check.due("its counter", bits.cell(0, 4), i);
        }
    }

    private static void countersFull(int first, int last, int lastPlace) {
        Check.refused("add", FULL, () -> {
            FewBits bits = Sample.counters(3, 2);
            // Full is reached by items that have but the one counter in common with the refused one.
            bits.addAll(0, Items.places(3, 1, 0), 0, first);
            bits.addAll(0, Items.places(3, lastPlace, 7), 0, last);
            return bits;
        }, bits -> bits.add(0, Items.places(3, 1, lastPlace)));
    }

    private static FewBits countedTo(int count) {
        FewBits bits = Sample.counters(3, 2);
        bits.addAll(0, Items.places(3, 2, 0), 0, count);
        return bits;
    }

    private static void thirteenAndTwo() {
        FewBits bits = countedTo(13);
        Check.due("add", bits.add(0, Items.places(3, 2, 2)), 14);
        Check.dueCells("its counters", bits, 0, 13, 0, 15, 0, 0, 0, 0, 0);
    }

    private static void fourteenAndTwo() {
        Check.refused("add", FULL, () -> countedTo(14), bits -> bits.add(0, Items.places(3, 2, 2)));
    }

    private static FewBits twelveBySixes() {
        FewBits bits = Sample.counters(3, 6);
        long x = Items.places(3, 3, 3, 3, 3, 3, 3);
        Check.due("the first time", bits.add(0, x), 1);
        Check.due("the second time", bits.add(0, x), 2);
        return bits;
    }

    private static void sixTimes() {
        Check.dueCells("twice six", twelveBySixes(), 0, 0, 0, 0, 12, 0, 0, 0, 0);
        Check.refused("three times six", FULL, Boundary04AddTest::twelveBySixes,
            bits -> bits.add(0, Items.places(3, 3, 3, 3, 3, 3, 3)));
    }

    private static void places(long x, int b, int... cells) {
        FewBits bits = Sample.counters(3, b);
        Check.due("add", bits.add(0, x), 1);
        Check.dueCells("its counters", bits, 0, cells);
    }

    private static void lastOfManyCounters() {
        FewBits bits = Sample.counters(10, 1);
        bits.add(0, Items.places(10, 1023));
        bits.add(0, Items.places(10, 512));
        Check.due("counter 1023", bits.cell(0, 1023), 1);
        Check.due("counter 512", bits.cell(0, 512), 1);
        Check.due("counters above 0", bits.count(0, 4), 2);
    }

    private static void bucketsWithRoom() {
        Check.test("(1 if that is 0): of 4 bits", () -> fingerprint(4, 0, 1));
        Check.test("(1 if that is 0): of 16 bits", () -> fingerprint(16, 0, 1));
        Check.test("the highest b bits: all 4 are 1", () -> fingerprint(4, 15, 15));
        Check.test("the highest b bits: all 16 are 1", () -> fingerprint(16, 65535, 65535));
        Check.test("the lowest a bits: bucket 255", Boundary04AddTest::lastOfManyBuckets);
        Check.test("the first free slot of the first bucket: of an empty one", () -> comesTo(0, 12, 0));
        Check.test("the first free slot of the first bucket: its last one", () -> comesTo(3, 12, 0, 13, 13, 13));
        Check.test("the first free slot of the first bucket: one in the midst", Boundary04AddTest::oneInTheMidst);
        Check.test("else of the second one: the first is full", () -> comesTo(8, 12, 0, SELVES));
        Check.test("else of the second one: its last slot", Boundary04AddTest::lastSlotOfTheSecond);
        Check.test("the same one again: each in a slot of its own", () -> comesTo(2, 12, 0, 12, 12));
    }

    private static void fingerprint(int b, int high, int want) {
        FewBits bits = Sample.one(0, 2, 1, b);
        bits.add(0, Items.print(1, b, high, 1, 0));
        Check.dueCells("its slots", bits, 0, 0, 0, 0, 0, want, 0, 0, 0);
    }

    private static void lastOfManyBuckets() {
        FewBits bits = Sample.one(0, 2, 8, 16);
        bits.add(0, Items.print(8, 16, 43690, 255, 0));
        Check.due("slot 0 of bucket 255", bits.cell(0, 4 * 255), 43690);
        Check.due("slots that have something", bits.count(0, 4), 1);
    }

    /** Where a fingerprint comes to, beside those that its first bucket has. */
    private static void comesTo(int slot, int print, int first, int... had) {
        FewBits bits = Sample.buckets(had);
        Check.due("add", bits.add(0, Items.print(2, 4, print, first, 1)), had.length + 1);
        int[] cells = new int[16];
        System.arraycopy(had, 0, cells, 0, had.length);
        cells[slot] = print;
        Check.dueCells("its slots", bits, 0, cells);
        Check.due("none were pushed", bits.count(0, 5), 0);
    }

    private static void oneInTheMidst() {
        FewBits bits = Sample.buckets(new int[] {13, 14, 14, 13});
        bits.remove(0, Items.print(2, 4, 14, 0, 0));
        bits.add(0, Items.print(2, 4, 12, 0, 0));
        Check.dueCells("its slots", bits, 0, 13, 12, 14, 13, 0, 0, 0, 0, 0, 0, 0, 0, 0, 0, 0, 0);
    }

    private static void lastSlotOfTheSecond() {
        FewBits bits = Sample.buckets(SELVES, new int[] {}, new int[] {13, 13, 13});
        Check.due("add", bits.add(0, Items.print(2, 4, 12, 0, 0)), 8);
        Check.dueCells("its slots", bits, 0, 13, 13, 13, 13, 0, 0, 0, 0, 13, 13, 13, 12, 0, 0, 0, 0);
        Check.due("none were pushed", bits.count(0, 5), 0);
    }

    private static void bucketsPushed() {
        Check.test("PUSHED from the second bucket on: once", Boundary04AddTest::fromTheSecondOn);
        Check.test("PUSHED, the two buckets are the same", Boundary04AddTest::fromTheOnlyOne);
        Check.test("PUSHED, slot k modulo 4: slot 3, and then slot 0", Boundary04AddTest::fifthSlotIsTheFirst);
        Check.test("k = 0, 1, .., 63: the 64th finds a free slot", Boundary04AddTest::theSixtyFourth);
        Check.test("with what is at hand behind the 64th: the 65th would find a free slot",
            Boundary04AddTest::theSixtyFifth);
        Check.test("with what is at hand behind the 64th: no slot is free at all", Boundary04AddTest::noSlotIsFree);
        Check.test("nothing is changed: one bucket of its own is full", Boundary04AddTest::onlyBucketIsFull);
        Check.test("a call that throws changes nothing but how many were pushed: again and again",
            Boundary04AddTest::pushedAgainAndAgain);
    }

    private static void fromTheSecondOn() {
        // 3 would leave bucket 0 at once; 8 goes from bucket 2 to 3.
        FewBits bits = Sample.buckets(new int[] {3, 3, 3, 3}, new int[] {}, new int[] {8, 13, 13, 13});
        Check.due("add", bits.add(0, Items.print(2, 4, 1, 0, 0)), 9);
        Check.dueCells("its slots", bits, 0, 3, 3, 3, 3, 0, 0, 0, 0, 1, 13, 13, 13, 8, 0, 0, 0);
        Check.due("how many were pushed", bits.count(0, 5), 1);
    }

    private static void fromTheOnlyOne() {
        FewBits bits = Sample.buckets(new int[] {}, new int[] {11, 6, 15, 3});
        Check.due("add", bits.add(0, Items.print(2, 4, 13, 1, 0)), 5);
        Check.dueCells("its slots", bits, 0, 11, 0, 0, 0, 13, 6, 15, 3, 0, 0, 0, 0, 0, 0, 0, 0);
        Check.due("how many were pushed", bits.count(0, 5), 1);
    }

    private static void fifthSlotIsTheFirst() {
        FewBits bits = Sample.buckets(new int[] {10, 13, 14, 14}, new int[] {8, 14}, new int[] {12, 2, 4, 12});
        Check.due("1 pushes 12, that 13, that 14, that 12, that 10", bits.add(0, Items.print(2, 4, 1, 0, 0)), 11);
        Check.dueCells("its slots", bits, 0, 12, 12, 13, 14, 8, 14, 10, 0, 1, 2, 4, 14, 0, 0, 0, 0);
        Check.due("how many were pushed", bits.count(0, 5), 5);
    }

    private static void theSixtyFourth() {
        FewBits bits = Sample.one(0, 2, 2, 4);
        Check.due("addAll", bits.addAll(0, 825, 1, 15), 15);
        Check.dueCells("so far", bits, 0, 14, 15, 4, 2, 7, 10, 4, 0, 6, 1, 1, 4, 5, 11, 5, 11);
        Check.due("pushed so far", bits.count(0, 5), 14);
        Check.due("add", bits.add(0, 840), 16);
        Check.dueCells("its slots", bits, 0, 4, 15, 15, 2, 7, 10, 4, 4, 6, 14, 1, 1, 5, 11, 5, 11);
        Check.due("pushed then", bits.count(0, 5), 78);
    }

    private static void theSixtyFifth() {
        FewBits bits = Sample.one(0, 2, 3, 4);
        Check.due("addAll", bits.addAll(0, 1496, 1, 31), 31);
        String before = Check.cells(bits, 0);
        Check.due("pushed so far", bits.count(0, 5), 42);
        Check.dueThrow("add", FULL, () -> bits.add(0, 1527));
        Check.dueText("its slots", Check.cells(bits, 0), before);
        Check.due("how many", bits.count(0, 3), 31);
        Check.due("slots that have something", bits.count(0, 4), 31);
        Check.due("pushed then", bits.count(0, 5), 106);
    }

    private static void noSlotIsFree() {
        FewBits bits = Sample.full();
        Check.dueThrow("add", FULL, () -> bits.add(1, Items.print(1, 4, 8, 0, 0)));
        Check.dueCells("its slots", bits, 1, 14, 14, 14, 14, 9, 9, 9, 9);
        Check.due("how many", bits.count(1, 3), 8);
        Check.due("how many were pushed", bits.count(1, 5), 64);
    }

    private static void onlyBucketIsFull() {
        FewBits bits = Sample.buckets(new int[] {13, 13, 13}, new int[] {13, 13, 13, 13});
        Check.dueThrow("add", FULL, () -> bits.add(0, Items.print(2, 4, 13, 1, 0)));
        Check.dueCells("its slots", bits, 0, 13, 13, 13, 0, 13, 13, 13, 13, 0, 0, 0, 0, 0, 0, 0, 0);
        Check.due("how many", bits.count(0, 3), 7);
        Check.due("how many were pushed", bits.count(0, 5), 64);
    }

    private static void pushedAgainAndAgain() {
        FewBits bits = Sample.full();
        String others = Check.cells(bits, 0) + Check.cells(bits, 2);
        for (int i = 1; i <= 5; i++) {
            Check.dueThrow("add", FULL, () -> bits.add(1, Items.print(1, 4, 5, 1, 0)));
            Check.due("how many were pushed", bits.count(1, 5), 64 * i);
        }
        Check.dueCells("its slots", bits, 1, 14, 14, 14, 14, 9, 9, 9, 9);
        Check.due("how many", bits.count(1, 3), 8);
        Check.dueText("the other filters", Check.cells(bits, 0) + Check.cells(bits, 2), others);
    }

    private static void runs() {
        Check.test("as many pairs as slots: the last one has room", Boundary04AddTest::lastPairHasRoom);
        Check.test("FULL when there are as many pairs as slots: 4", () -> fullRefuses(2));
        Check.test("FULL when there are as many pairs as slots: 256", Boundary04AddTest::fullOf256);
        Check.test("FULL when there are as many pairs as slots: also for a pair that is there",
            () -> Check.refused("add", FULL, Sample::full, bits -> bits.add(2, Items.pair(2, 5, 1, 16, 0))));
        Check.test("room again when one was removed", Boundary04AddTest::roomAgain);
        Check.test("the highest a bits, the b bits behind these: all 1, of 2 and 4", () -> highest(2, 4, 3, 15));
        Check.test("the highest a bits, the b bits behind these: all 1, of 8 and 20",
            () -> highest(8, 20, 255, 1048575));
        Check.test("the highest a bits, the b bits behind these: all 0", () -> highest(8, 20, 0, 0));
    }

    private static void lastPairHasRoom() {
        FewBits bits = Sample.runs(0, 0, 1, 1, 2, 2);
        Check.due("add", bits.add(0, Items.pair(2, 4, 3, 3, 0)), 4);
        Check.dueCells("its slots", bits, 0, 1, 9, 17, 25);
    }

    private static void fullOf256() {
        FewBits bits = Sample.one(0, 3, 8, 20);
        Check.due("addAll", bits.addAll(0, 0, 1, 255), 255);
        Check.due("the 256th", bits.add(0, 255), 256);
        Check.dueThrow("the 257th", FULL, () -> bits.add(0, 256));
        Check.due("how many", bits.count(0, 3), 256);
        Check.due("it is not there", bits.has(0, 256), false);
    }

    private static void roomAgain() {
        FewBits bits = Sample.runs(0, 0, 1, 1, 2, 2, 3, 3);
        bits.remove(0, Items.pair(2, 4, 1, 1, 0));
        Check.due("add", bits.add(0, Items.pair(2, 4, 0, 9, 0)), 4);
        Check.dueThrow("another", FULL, () -> bits.add(0, Items.pair(2, 4, 1, 1, 0)));
        Check.dueCells("its slots", bits, 0, 1, 78, 17, 25);
    }

    private static void highest(int a, int b, int quotient, int remainder) {
        FewBits bits = Sample.one(0, 3, a, b);
        bits.add(0, Items.pair(a, b, quotient, remainder, 0));
        Check.due("its slot", bits.cell(0, quotient), 8 * remainder + 1);
        Check.due("slots that have something", bits.count(0, 4), 1);
    }

    private static void fullRefuses(int f) {
        for (long x : new long[] {0, 1, -1, Long.MIN_VALUE, Long.MAX_VALUE}) {
            Check.refused("add " + x, FULL, Sample::full, bits -> bits.add(f, x));
        }
    }

    private static void noSuchFilter(Class<? extends RuntimeException> want, int... numbers) {
        for (int f : numbers) {
            Check.refused("add to " + f, want, Sample::full, bits -> bits.add(f, 0));
        }
    }
}
