import java.util.NoSuchElementException;

/** The boundary cases of promise 6: down to nothing, and what is not there to be removed. */
public final class Boundary06RemoveTest {
    private static final Class<NoSuchElementException> NOT_THERE = NoSuchElementException.class;
    private static final Class<IndexOutOfBoundsException> INDEX = IndexOutOfBoundsException.class;
    private static final Class<IllegalStateException> STATE = IllegalStateException.class;

    public static void main(String[] args) {
        counters();
        buckets();
        runs();
        for (int kind = 1; kind <= 3; kind++) {
            int f = kind - 1;
            Check.test("how many there are then: none, kind " + kind, () -> theLastOne(f));
            Check.test("an empty filter refuses all, kind " + kind, () -> emptyRefuses(f));
        }
        Check.test("the one named first: no such number", () -> noSuchFilter(INDEX, -1, 4));
        Check.test("the one named first: it is none", () -> noSuchFilter(STATE, 3));
        Check.done();
    }

    private static void counters() {
        Check.test("down: from 1 to 0", Boundary06RemoveTest::fromOne);
        Check.test("down: from 15 to 14, and room again", Boundary06RemoveTest::fromFifteen);
        Check.test("refused if one would be below 0: the first place alone", () -> belowZero(6, 0));
        Check.test("refused if one would be below 0: the last place alone", () -> belowZero(0, 6));
        Check.test("two places are the same: 2 less 2", Boundary06RemoveTest::twoLessTwo);
        Check.test("two places are the same: 1 less 2, though it is there", Boundary06RemoveTest::oneLessTwo);
        Check.test("all six places are the same: 6 less 6", Boundary06RemoveTest::sixLessSix);
        Check.test("all six places are the same: 5 less 6", Boundary06RemoveTest::fiveLessSix);
        Check.test("one that looks the same: its places in another order", Boundary06RemoveTest::anotherOrder);
        Check.test("one that was never added, but looks as if", Boundary06RemoveTest::neverAdded);
    }

    private static void fromOne() {
        FewBits bits = Sample.counters(3, 2);
        bits.add(0, Items.places(3, 0, 7));
        Check.due("remove", bits.remove(0, Items.places(3, 0, 7)), 0);
        Check.dueCells("its counters", bits, 0, 0, 0, 0, 0, 0, 0, 0, 0);
    }

    private static void fromFifteen() {
        FewBits bits = Sample.counters(3, 1);
        long x = Items.places(3, 7);
        bits.addAll(0, x, 0, 15);
        Check.due("remove", bits.remove(0, x), 14);
        Check.due("its counter", bits.cell(0, 7), 14);
        Check.due("add", bits.add(0, x), 15);
    }

    private static void belowZero(int first, int last) {
        Check.refused("remove", NOT_THERE, () -> {
            FewBits bits = Sample.counters(3, 2);
            bits.addAll(0, Items.places(3, 0, 0), 0, 3);
            return bits;
        }, bits -> bits.remove(0, Items.places(3, first, last)));
    }

    private static void twoLessTwo() {
        FewBits bits = Sample.counters(3, 2);
        bits.add(0, Items.places(3, 5, 5));
        Check.due("its counter", bits.cell(0, 5), 2);
        Check.due("remove", bits.remove(0, Items.places(3, 5, 5)), 0);
        Check.due("its counter", bits.cell(0, 5), 0);
    }

    private static FewBits oneInFive() {
        FewBits bits = Sample.counters(3, 2);
        bits.add(0, Items.places(3, 4, 5));
        return bits;
    }

    private static void oneLessTwo() {
        Check.due("it is there", oneInFive().has(0, Items.places(3, 5, 5)), true);
        Check.refused("remove", NOT_THERE, Boundary06RemoveTest::oneInFive,
            bits -> bits.remove(0, Items.places(3, 5, 5)));
    }

    private static void sixLessSix() {
        FewBits bits = Sample.counters(3, 6);
        bits.add(0, Items.places(3, 2, 2, 2, 2, 2, 2));
        Check.due("remove", bits.remove(0, Items.places(3, 2, 2, 2, 2, 2, 2)), 0);
        Check.dueCells("its counters", bits, 0, 0, 0, 0, 0, 0, 0, 0, 0);
    }

    private static void fiveLessSix() {
        Check.refused("remove", NOT_THERE, () -> {
            FewBits bits = Sample.counters(3, 6);
            bits.add(0, Items.places(3, 2, 2, 2, 2, 2, 1));
            return bits;
        }, bits -> bits.remove(0, Items.places(3, 2, 2, 2, 2, 2, 2)));
    }

    private static void anotherOrder() {
        FewBits bits = oneInFive();
        Check.due("remove", bits.remove(0, Items.places(3, 5, 4)), 0);
        Check.dueCells("its counters", bits, 0, 0, 0, 0, 0, 0, 0, 0, 0);
    }

    private static void neverAdded() {
        FewBits bits = oneInFive();
        bits.add(0, Items.places(3, 6, 7));
        Check.due("remove", bits.remove(0, Items.places(3, 4, 7)), 1);
        Check.dueCells("its counters", bits, 0, 0, 0, 0, 0, 0, 1, 1, 0);
        Check.dueThrow("what was added", NOT_THERE, () -> bits.remove(0, Items.places(3, 4, 5)));
    }

    private static void buckets() {
        Check.test("the first slot of the first bucket that has it: the first of four", () -> freed(0, 12, 12, 12, 12));
        Check.test("the first slot of the first bucket that has it: the last of four", () -> freed(3, 13, 13, 13, 12));
        Check.test("the first slot of the first bucket, though the second has it, too",
            Boundary06RemoveTest::inBothBuckets);
        Check.test("else of the second one", Boundary06RemoveTest::inTheSecondAlone);
        Check.test("else of the second one: its last slot", Boundary06RemoveTest::lastSlotOfTheSecond);
        Check.test("refused if there is none: in another bucket alone", Boundary06RemoveTest::inAnotherBucket);
        Check.test("refused if there is none: another fingerprint in its bucket",
            Boundary06RemoveTest::anotherFingerprint);
        Check.test("one that looks the same: 0 and 1", Boundary06RemoveTest::zeroAndOne);
        Check.test("how many were pushed stays", Boundary06RemoveTest::pushedStays);
    }

    private static void freed(int slot, int... had) {
        FewBits bits = Sample.buckets(had);
        Check.due("remove", bits.remove(0, Items.print(2, 4, 12, 0, 1)), 3);
        int[] cells = new int[16];
        System.arraycopy(had, 0, cells, 0, 4);
        cells[slot] = 0;
        Check.dueCells("its slots", bits, 0, cells);
    }

    private static void inBothBuckets() {
        FewBits bits = Sample.buckets(new int[] {12}, new int[] {}, new int[] {13, 12});
        Check.due("remove", bits.remove(0, Items.print(2, 4, 12, 2, 0)), 2);
        Check.dueCells("its slots", bits, 0, 12, 0, 0, 0, 0, 0, 0, 0, 13, 0, 0, 0, 0, 0, 0, 0);
    }

    private static void inTheSecondAlone() {
        FewBits bits = Sample.buckets(new int[] {12, 12}, new int[] {}, new int[] {13});
        Check.due("remove", bits.remove(0, Items.print(2, 4, 12, 2, 0)), 2);
        Check.dueCells("its slots", bits, 0, 0, 12, 0, 0, 0, 0, 0, 0, 13, 0, 0, 0, 0, 0, 0, 0);
    }

    private static void lastSlotOfTheSecond() {
        FewBits bits = Sample.buckets(new int[] {13, 13, 13, 12});
        Check.due("remove", bits.remove(0, Items.print(2, 4, 12, 2, 0)), 3);
        Check.dueCells("its slots", bits, 0, 13, 13, 13, 0, 0, 0, 0, 0, 0, 0, 0, 0, 0, 0, 0, 0);
    }

    private static void inAnotherBucket() {
        Check.refused("remove", NOT_THERE, () -> Sample.buckets(new int[] {12}, new int[] {}, new int[] {12}),
            bits -> bits.remove(0, Items.print(2, 4, 12, 1, 0)));
    }

    private static void anotherFingerprint() {
        Check.refused("remove", NOT_THERE, () -> Sample.buckets(new int[] {12, 13, 14, 15}),
            bits -> bits.remove(0, Items.print(2, 4, 1, 0, 0)));
    }

    private static void zeroAndOne() {
        FewBits bits = Sample.buckets(new int[] {0});
        Check.due("its slot", bits.cell(0, 0), 1);
        Check.due("remove", bits.remove(0, Items.print(2, 4, 1, 0, 0)), 0);
    }

    private static void pushedStays() {
        FewBits bits = Sample.full();
        bits.addAll(1, Items.print(1, 4, 14, 0, 0), 0, 1);
        bits.remove(1, Items.print(1, 4, 9, 1, 0));
        Check.due("how many were pushed", bits.count(1, 5), 64);
    }

    private static void runs() {
        Check.test("as often as it was added less as often as it was removed", Boundary06RemoveTest::asOftenAsAdded);
        Check.test("refused when its pair is not there: another remainder", () -> noPair(1, 6));
        Check.test("refused when its pair is not there: another quotient", () -> noPair(0, 5));
        Check.test("refused when its pair is not there: before all", () -> noPair(0, 0));
        Check.test("refused when its pair is not there: behind all", () -> noPair(3, 15));
        Check.test("removed from a full circle: runs go back to their slots", Boundary06RemoveTest::fromAFullCircle);
        Check.test("removed from a full circle: of 256, the first, the last and one in the midst",
            Boundary06RemoveTest::fromAFullCircleOf256);
        Check.test("removed over the end: runs go back to their slots", Boundary06RemoveTest::overTheEnd);
        Check.test("removed: its slot is claimed no more, but used still", Boundary06RemoveTest::claimedNoMore);
        Check.test("removed by one that looks the same", Boundary06RemoveTest::looksTheSame);
    }

    private static void asOftenAsAdded() {
        FewBits bits = Sample.runs(2, 7, 2, 7);
        long x = Items.pair(2, 4, 2, 7, 0);
        Check.due("once", bits.remove(0, x), 1);
        Check.due("it is there", bits.has(0, x), true);
        Check.due("twice", bits.remove(0, x), 0);
        Check.due("it is not there", bits.has(0, x), false);
        Check.dueThrow("three times", NOT_THERE, () -> bits.remove(0, x));
        Check.dueCells("its slots", bits, 0, 0, 0, 0, 0);
    }

    private static void noPair(int quotient, int remainder) {
        Check.refused("remove", NOT_THERE, () -> Sample.runs(1, 5, 1, 7, 2, 5),
            bits -> bits.remove(0, Items.pair(2, 4, quotient, remainder, 0)));
    }

    private static void fromAFullCircle() {
        FewBits bits = Sample.runs(2, 1, 2, 2, 3, 3, 0, 4);
        Check.dueCells("2: 1 and 2, 3: 3 in slot 0, 0: 4 in slot 1", bits, 0, 29, 36, 9, 23);
        Check.due("remove", bits.remove(0, Items.pair(2, 4, 2, 2, 0)), 3);
        Check.dueCells("each in its own", bits, 0, 33, 0, 9, 25);
    }

    private static void fromAFullCircleOf256() {
        FewBits bits = Sample.one(0, 3, 8, 20);
        Check.due("addAll", bits.addAll(0, 0, 1, 400), 256);
        int[] items = {0, 255, 100};
        for (int i = 0; i < items.length; i++) {
            Check.due("remove " + items[i], bits.remove(0, items[i]), 255 - i);
            Check.due("it is not there", bits.has(0, items[i]), false);
        }
        Check.due("the others are there", bits.hasAll(0, 0, 1, 256), 253);
    }

    private static void claimedNoMore() {
        FewBits bits = Sample.runs(2, 1, 2, 2, 3, 3);
        Check.dueCells("2: 1 and 2, 3: 3 in slot 0", bits, 0, 28, 0, 9, 23);
        bits.remove(0, Items.pair(2, 4, 3, 3, 0));
        Check.dueCells("2: 1 and 2", bits, 0, 0, 0, 9, 22);
    }

    private static void overTheEnd() {
        FewBits bits = Sample.runs(3, 8, 3, 9, 0, 4);
        Check.dueCells("3: 8 and 9, 0: 4 in slot 1", bits, 0, 79, 36, 0, 65);
        Check.due("remove", bits.remove(0, Items.pair(2, 4, 3, 8, 0)), 2);
        Check.dueCells("each in its own", bits, 0, 33, 0, 0, 73);
    }

    private static void looksTheSame() {
        FewBits bits = Sample.runs(3, 15);
        Check.due("remove", bits.remove(0, Items.pair(2, 4, 3, 15, 12345)), 0);
        Check.dueCells("its slots", bits, 0, 0, 0, 0, 0);
    }

    private static void theLastOne(int f) {
        FewBits bits = Sample.empty();
        bits.add(f, 123);
        Check.due("remove", bits.remove(f, 123), 0);
        Check.dueText("the state", Check.state(bits), Check.state(Sample.empty()));
    }

    private static void emptyRefuses(int f) {
        for (long x : new long[] {0, 1, -1, Long.MIN_VALUE, Long.MAX_VALUE}) {
            Check.refused("remove " + x, NOT_THERE, Sample::empty, bits -> bits.remove(f, x));
        }
    }

    private static void noSuchFilter(Class<? extends RuntimeException> want, int... numbers) {
        for (int f : numbers) {
            Check.refused("remove from " + f, want, Sample::empty, bits -> bits.remove(f, 0));
        }
    }
}
