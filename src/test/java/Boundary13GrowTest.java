/** The boundary cases of promise 13: the greatest a, the least b, and where the highest bit goes. */
public final class Boundary13GrowTest {
    private static final Class<IllegalArgumentException> ARGUMENT = IllegalArgumentException.class;
    private static final Class<IndexOutOfBoundsException> INDEX = IndexOutOfBoundsException.class;
    private static final Class<IllegalStateException> STATE = IllegalStateException.class;

    public static void main(String[] args) {
        Check.test("a is 8: refused", () -> largest(8, 5));
        Check.test("b is 4: refused", () -> refused(2, 4));
        Check.test("a is 8 and b is 4: refused", () -> largest(8, 4));
        Check.test("b is 4 and a is 7: refused", () -> largest(7, 4));
        Check.test("a is 7 becomes 8", () -> grows(7, 20));
        Check.test("b is 5 becomes 4", () -> grows(2, 5));
        Check.test("a is 7 and b is 5: 8 and 4", () -> grows(7, 5));
        Check.test("a is 2 and b is 20: 3 and 19", () -> grows(2, 20));
        Check.test("until a is 8, and then refused", Boundary13GrowTest::untilTheEnd);
        Check.test("it is none of runs: counters",
            () -> Check.refused("grow", ARGUMENT, Sample::some, bits -> bits.grow(0)));
        Check.test("it is none of runs: buckets",
            () -> Check.refused("grow", ARGUMENT, Sample::some, bits -> bits.grow(1)));
        Check.test("it is none", () -> Check.refused("grow", STATE, Sample::some, bits -> bits.grow(3)));
        Check.test("there is no filter of that number: -1",
            () -> Check.refused("grow", INDEX, Sample::some, bits -> bits.grow(-1)));
        Check.test("there is no filter of that number: 4",
            () -> Check.refused("grow", INDEX, Sample::some, bits -> bits.grow(4)));
        Check.test("a call that throws changes nothing: one that is full", Boundary13GrowTest::fullStays);
        pairs();
        Check.test("as many pairs as slots: room for as many again", Boundary13GrowTest::roomAgain);
        Check.test("items are there as before, and no others that were told apart", Boundary13GrowTest::itemsStay);
        Check.test("others stay as they are", Boundary13GrowTest::othersStay);
        Check.done();
    }

    private static void refused(int a, int b) {
        Check.refused("grow", ARGUMENT, () -> {
            FewBits bits = Sample.one(0, 3, a, b);
            bits.addAll(0, 0, 1, 3);
            return bits;
        }, bits -> bits.grow(0));
    }

    /** One with too many slots to be seen whole by 512 calls, beside its counts. */
    private static void largest(int a, int b) {
        FewBits bits = Sample.one(0, 3, a, b);
        bits.addAll(0, 0, 1, 50);
        String before = Check.cells(bits, 0).substring(0, 100);
        Check.dueThrow("grow", ARGUMENT, () -> bits.grow(0));
        Check.due("a", bits.count(0, 1), a);
        Check.due("b", bits.count(0, 2), b);
        Check.due("how many", bits.count(0, 3), 50);
        Check.due("those that were added", bits.hasAll(0, 0, 1, 50), 50);
        StringBuilder behind = new StringBuilder();
        for (int i = 0; behind.length() < 100; i++) {
            behind.append(bits.cell(0, i)).append(' ');
        }
        Check.dueText("its first slots", behind.substring(0, 100), before);
    }

    private static void grows(int a, int b) {
        FewBits bits = Sample.one(0, 3, a, b);
        bits.add(0, Items.pair(a, b, (1 << a) - 1, (1 << b) - 1, 0));
        bits.grow(0);
        Check.due("a", bits.count(0, 1), a + 1);
        Check.due("b", bits.count(0, 2), b - 1);
        Check.due("how many", bits.count(0, 3), 1);
        Check.due("the last slot", bits.cell(0, (2 << a) - 1), 8 * ((1 << b - 1) - 1) + 1);
        Check.dueThrow("behind the last slot", INDEX, () -> bits.cell(0, 2 << a));
    }

    private static void untilTheEnd() {
        FewBits bits = Sample.one(0, 3, 2, 9);
        for (int a = 3; a <= 7; a++) {
            bits.grow(0);
            Check.due("a", bits.count(0, 1), a);
            Check.due("b", bits.count(0, 2), 11 - a);
        }
        Check.dueThrow("b is 4", ARGUMENT, () -> bits.grow(0));
        bits.make(0, 3, 2, 11);
        for (int a = 3; a <= 8; a++) {
            bits.grow(0);
        }
        Check.due("b", bits.count(0, 2), 5);
        Check.dueThrow("a is 8", ARGUMENT, () -> bits.grow(0));
        Check.due("a", bits.count(0, 1), 8);
    }

    private static void fullStays() {
        Check.refused("grow", ARGUMENT, () -> Sample.runs(3, 1, 3, 2, 3, 3, 0, 9), bits -> bits.grow(0));
    }

    private static void pairs() {
        moved("the highest bit is 0", new int[] {1, 0b01111}, 0, 0, 121, 0, 0, 0, 0, 0);
        moved("the highest bit is 1", new int[] {1, 0b10000}, 0, 0, 0, 1, 0, 0, 0, 0);
        moved("all bits are 0", new int[] {0, 0}, 1, 0, 0, 0, 0, 0, 0, 0);
        moved("all bits are 1", new int[] {3, 31}, 0, 0, 0, 0, 0, 0, 0, 121);
        moved("one run becomes two", new int[] {1, 3, 1, 19}, 0, 0, 25, 25, 0, 0, 0, 0);
        moved("two that follow still", new int[] {1, 3, 1, 4}, 0, 0, 25, 38, 0, 0, 0, 0);
        moved("what lay over the end lies in its own slot", new int[] {3, 1, 3, 17}, 0, 0, 0, 0, 0, 0, 9, 9);
        moved("what lay in the last slot lies over the end", new int[] {3, 30, 3, 31}, 126, 0, 0, 0, 0, 0, 0, 113);
        moved("nothing", new int[] {}, 0, 0, 0, 0, 0, 0, 0, 0);
        moved("as many pairs as slots, one run round about", new int[] {3, 16, 3, 16, 3, 17, 3, 18},
            6, 14, 22, 0, 0, 0, 0, 1);
        moved("as many pairs as slots, each another", new int[] {0, 0, 1, 16, 2, 31, 3, 5},
            1, 0, 0, 1, 0, 121, 41, 0);
    }

    private static void moved(String what, int[] pairs, int... want) {
        Check.test("the highest bit of each remainder becomes the lowest one of its quotient: " + what, () -> {
            FewBits bits = Sample.one(0, 3, 2, 5);
            Sample.addPairs(bits, 0, 2, 5, pairs);
            bits.grow(0);
            Check.dueCells("its slots", bits, 0, want);
            Check.due("how many", bits.count(0, 3), pairs.length / 2);
        });
    }

    private static void roomAgain() {
        FewBits bits = Sample.full();
        bits.grow(2);
        Check.due("how many", bits.count(2, 3), 4);
        Check.due("the longest row", bits.count(2, 5), 4);
        Check.due("addAll", bits.addAll(2, 0, 1, 400), 4);
        Check.dueThrow("one more", UnsupportedOperationException.class, () -> bits.add(2, 0));
    }

    private static void itemsStay() {
        FewBits bits = Sample.one(0, 3, 4, 6);
        bits.addAll(0, 0, 1, 16);
        int there = bits.hasAll(0, 0, 1, 400);
        bits.grow(0);
        Check.due("as many are there", bits.hasAll(0, 0, 1, 400), there);
        for (int i = 0; i < 16; i++) {
            Check.due("each can be removed", bits.remove(0, i), 15 - i);
        }
        Check.due("none is left", bits.hasAll(0, 0, 1, 400), 0);
    }

    private static void othersStay() {
        FewBits bits = Sample.some();
        bits.make(3, 3, 2, 5);
        bits.add(3, 1);
        bits.grow(3);
        FewBits untouched = Sample.some();
        for (int f = 0; f < 3; f++) {
            Check.dueText("the cells of " + f, Check.cells(bits, f), Check.cells(untouched, f));
            Check.due("a of " + f, bits.count(f, 1), untouched.count(f, 1));
        }
    }
}
