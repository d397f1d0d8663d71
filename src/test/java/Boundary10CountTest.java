/** The boundary cases of promise 10: numbers that are none of these, and filters that are empty or full. */
public final class Boundary10CountTest {
    private static final Class<IllegalArgumentException> ARGUMENT = IllegalArgumentException.class;
    private static final Class<IndexOutOfBoundsException> INDEX = IndexOutOfBoundsException.class;
    private static final Class<IllegalStateException> STATE = IllegalStateException.class;

    public static void main(String[] args) {
        for (int what : new int[] {-1, 6, Integer.MIN_VALUE, Integer.MAX_VALUE}) {
            Check.test("what is none of these: " + what, () -> wrongWhat(what));
        }
        Check.test("the one named first: no such number, and what is none",
            () -> Check.refused("count", INDEX, Sample::some, bits -> bits.count(4, 6)));
        Check.test("the one named first: none, and what is none",
            () -> Check.refused("count", STATE, Sample::some, bits -> bits.count(3, -1)));
        Check.test("of an empty one: counters", () -> due(Sample.empty(), 0, 1, 3, 2, 0, 0, 0));
        Check.test("of an empty one: buckets", () -> due(Sample.empty(), 1, 2, 1, 4, 0, 0, 0));
        Check.test("of an empty one: runs", () -> due(Sample.empty(), 2, 3, 2, 5, 0, 0, 0));
        Check.test("of a full one: counters", () -> due(Sample.full(), 0, 1, 3, 2, 60, 8, 15));
        Check.test("of a full one: buckets", () -> due(Sample.full(), 1, 2, 1, 4, 8, 8, 0));
        Check.test("of a full one: runs", () -> due(Sample.full(), 2, 3, 2, 5, 4, 4, 4));
        counters();
        buckets();
        runs();
        Check.done();
    }

    private static void due(FewBits bits, int f, int... counts) {
        for (int what = 0; what < 6; what++) {
            Check.due("count " + what, bits.count(f, what), counts[what]);
        }
    }

    private static void wrongWhat(int what) {
        for (int f = 0; f < 3; f++) {
            int filter = f;
            Check.refused("count of " + f, ARGUMENT, Sample::some, bits -> bits.count(filter, what));
        }
    }

    private static void counters() {
        Check.test("counters above 0: one place alone, b times", () -> counted(1, 3, 4, 4, 4));
        Check.test("counters above 0: the first and the last", () -> counted(2, 1, 0, 7));
        Check.test("counters above 0, the greatest: the last of 1024", Boundary10CountTest::lastOf1024);
        Check.test("counters above 0: not what is back to 0", Boundary10CountTest::backToZero);
        Check.test("the greatest counter: the first", () -> greatestAt(0));
        Check.test("the greatest counter: the last", () -> greatestAt(7));
        Check.test("the greatest counter: 15, and not 16 by what is refused", Boundary10CountTest::greatest);
    }

    private static void counted(int above, int greatest, int... places) {
        FewBits bits = Sample.counters(3, places.length);
        bits.add(0, Items.places(3, places));
        due(bits, 0, 1, 3, places.length, 1, above, greatest);
    }

    private static void lastOf1024() {
        FewBits bits = Sample.counters(10, 1);
        bits.addAll(0, Items.places(10, 1023), 0, 2);
        due(bits, 0, 1, 10, 1, 2, 1, 2);
    }

    private static void backToZero() {
        FewBits bits = Sample.counters(3, 1);
        bits.add(0, Items.places(3, 2));
        bits.add(0, Items.places(3, 3));
        bits.remove(0, Items.places(3, 2));
        due(bits, 0, 1, 3, 1, 1, 1, 1);
    }

    private static void greatestAt(int place) {
        FewBits bits = Sample.counters(3, 1);
        bits.add(0, Items.places(3, 3));
        bits.addAll(0, Items.places(3, place), 0, 2);
        due(bits, 0, 1, 3, 1, 3, 2, 2);
    }

    private static void greatest() {
        FewBits bits = Sample.counters(3, 1);
        bits.addAll(0, Items.places(3, 2), 0, 16);
        due(bits, 0, 1, 3, 1, 15, 1, 15);
    }

    private static void buckets() {
        Check.test("how many were pushed: none, while there is room", Boundary10CountTest::nonePushed);
        Check.test("how many were pushed in all: also by what was refused", Boundary10CountTest::pushedByRefused);
        Check.test("how many were pushed in all: also by what was added", Boundary10CountTest::pushedByAdded);
        Check.test("how many were pushed in all: each filter its own", Boundary10CountTest::eachItsOwn);
        Check.test("slots that have something: of the last bucket of 256", Boundary10CountTest::lastOf256);
    }

    private static void nonePushed() {
        FewBits bits = Sample.one(0, 2, 1, 4);
        bits.addAll(0, Items.print(1, 4, 8, 0, 0), 0, 8);
        due(bits, 0, 2, 1, 4, 8, 8, 0);
    }

    private static void pushedByRefused() {
        FewBits bits = Sample.one(0, 2, 1, 4);
        bits.addAll(0, Items.print(1, 4, 8, 0, 0), 0, 9);
        due(bits, 0, 2, 1, 4, 8, 8, 64);
        Check.outcome(() -> bits.add(0, Items.print(1, 4, 8, 0, 0)));
        due(bits, 0, 2, 1, 4, 8, 8, 128);
        bits.remove(0, Items.print(1, 4, 8, 0, 0));
        due(bits, 0, 2, 1, 4, 7, 7, 128);
    }

    private static void pushedByAdded() {
        FewBits bits = Sample.buckets(new int[] {}, new int[] {11, 6, 15, 3});
        due(bits, 0, 2, 2, 4, 4, 4, 0);
        bits.add(0, Items.print(2, 4, 13, 1, 0));
        due(bits, 0, 2, 2, 4, 5, 5, 1);
    }

    private static void eachItsOwn() {
        FewBits bits = Sample.full();
        bits.make(3, 2, 1, 4);
        bits.addAll(1, 0, 1, 1);
        Check.due("of 1", bits.count(1, 5), 64);
        Check.due("of 3", bits.count(3, 5), 0);
    }

    private static void lastOf256() {
        FewBits bits = Sample.one(0, 2, 8, 4);
        bits.add(0, Items.print(8, 4, 15, 255, 0));
        due(bits, 0, 2, 8, 4, 1, 1, 0);
    }

    private static void runs() {
        Check.test("the longest row: one slot", () -> longest(1, 0, 0));
        Check.test("the longest row: two rows of one, none the longer", () -> longest(1, 0, 0, 2, 0));
        Check.test("the longest row: one behind the other, none moved", () -> longest(2, 1, 0, 2, 0));
        Check.test("the longest row: one behind the other, moved", () -> longest(3, 1, 0, 1, 0, 2, 0));
        Check.test("the longest row round about: the last slot and the first one", () -> longest(2, 3, 0, 0, 0));
        Check.test("the longest row round about: moved over the end", () -> longest(3, 3, 0, 3, 0, 3, 0));
        Check.test("the longest row round about: all slots but one", () -> longest(3, 2, 0, 3, 0, 0, 0));
        Check.test("the longest row: all slots, each its own", () -> longest(4, 0, 0, 1, 0, 2, 0, 3, 0));
        Check.test("the longest row: all slots, one run", () -> longest(4, 2, 1, 2, 1, 2, 1, 2, 1));
        Check.test("the longest row: all of 256", Boundary10CountTest::longestOf256);
        Check.test("the longest row: not the one that is over the end", Boundary10CountTest::longestInTheMidst);
        Check.test("the longest row round about: longer behind the end than before it",
            Boundary10CountTest::longestBehindTheEnd);
        Check.test("the longest row: shorter when one was removed", Boundary10CountTest::shorter);
    }

    private static void longest(int want, int... pairs) {
        due(Sample.runs(pairs), 0, 3, 2, 4, pairs.length / 2, pairs.length / 2, want);
    }

    private static void longestOf256() {
        FewBits bits = Sample.one(0, 3, 8, 4);
        bits.addAll(0, 0, 1, 400);
        due(bits, 0, 3, 8, 4, 256, 256, 256);
    }

    private static void longestInTheMidst() {
        FewBits bits = Sample.one(0, 3, 3, 4);
        Sample.addPairs(bits, 0, 3, 4, 7, 1, 7, 2, 2, 1, 2, 2, 2, 3);
        due(bits, 0, 3, 3, 4, 5, 5, 3);
    }

    private static void longestBehindTheEnd() {
        FewBits bits = Sample.one(0, 3, 3, 4);
        Sample.addPairs(bits, 0, 3, 4, 6, 1, 7, 2, 0, 3, 1, 4, 2, 5, 3, 6);
        due(bits, 0, 3, 3, 4, 6, 6, 6);
    }

    private static void shorter() {
        FewBits bits = Sample.runs(0, 0, 1, 0, 2, 0, 3, 0);
        bits.remove(0, Items.pair(2, 4, 1, 0, 0));
        due(bits, 0, 3, 2, 4, 3, 3, 3);
        bits.remove(0, Items.pair(2, 4, 3, 0, 0));
        due(bits, 0, 3, 2, 4, 2, 2, 1);
    }
}
