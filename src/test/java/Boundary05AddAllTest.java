/** The boundary cases of promise 5: no items, the most, and the first that is refused. */
public final class Boundary05AddAllTest {
    private static final Class<IllegalArgumentException> ARGUMENT = IllegalArgumentException.class;
    private static final Class<IndexOutOfBoundsException> INDEX = IndexOutOfBoundsException.class;
    private static final Class<IllegalStateException> STATE = IllegalStateException.class;

    public static void main(String[] args) {
        Check.test("n is 0: of some", () -> noItems(Sample::some));
        Check.test("n is 0: of a full one", () -> noItems(Sample::full));
        Check.test("n is 1: x alone", Boundary05AddAllTest::oneItem);
        Check.test("n is 400: all have room", Boundary05AddAllTest::mostItems);
        for (int n : new int[] {-1, 401, Integer.MIN_VALUE, Integer.MAX_VALUE}) {
            Check.test("n is not 0 .. 400: " + n, () -> wrongN(n));
        }
        Check.test("x, x + step, ..: step is 0", Boundary05AddAllTest::stepOfZero);
        Check.test("x, x + step, ..: step is below 0", Boundary05AddAllTest::stepBelowZero);
        Check.test("x, x + step, ..: over the greatest long", () -> wraps(Long.MAX_VALUE, 1, Long.MIN_VALUE));
        Check.test("x, x + step, ..: under the least long", () -> wraps(Long.MIN_VALUE, -1, Long.MAX_VALUE));
        Check.test("x, x + step, ..: the least step, twice round", Boundary05AddAllTest::leastStep);
        Check.test("up to the first that is refused: the first one at once", Boundary05AddAllTest::firstAtOnce);
        Check.test("up to the first that is refused: the last one", Boundary05AddAllTest::lastRefused);
        Check.test("up to the first that is refused: none behind it, counters",
            Boundary05AddAllTest::noneBehindCounters);
        Check.test("up to the first that is refused: none behind it, buckets", Boundary05AddAllTest::noneBehindBuckets);
        Check.test("how many: of this call, not in all", Boundary05AddAllTest::ofThisCall);
        Check.test("the one named first: no such number, and n too small",
            () -> Check.refused("addAll", INDEX, Sample::some, bits -> bits.addAll(4, 0, 1, -1)));
        Check.test("the one named first: none, and n too large",
            () -> Check.refused("addAll", STATE, Sample::some, bits -> bits.addAll(3, 0, 1, 401)));
        Check.test("the one named first: n too large for a full one",
            () -> Check.refused("addAll", ARGUMENT, Sample::full, bits -> bits.addAll(1, 0, 1, 401)));
        Check.done();
    }

    private static void noItems(Check.Maker maker) {
        FewBits bits = maker.make();
        for (int f = 0; f < 3; f++) {
            Check.due("addAll to " + f, bits.addAll(f, 5, 1, 0), 0);
        }
        Check.dueText("the state", Check.state(bits), Check.state(maker.make()));
    }

    private static void oneItem() {
        for (int f = 0; f < 3; f++) {
            FewBits bits = Sample.some();
            FewBits other = Sample.some();
            Check.due("addAll to " + f, bits.addAll(f, 77, 5, 1), 1);
            other.add(f, 77);
            Check.dueText("the state", Check.state(bits), Check.state(other));
        }
    }

    private static void mostItems() {
        FewBits bits = Sample.counters(10, 1);
        Check.due("counters", bits.addAll(0, 0, 1, 400), 400);
        Check.due("how many", bits.count(0, 3), 400);
        bits.make(1, 2, 8, 16);
        Check.due("buckets", bits.addAll(1, 0, 1, 400), 400);
        Check.due("how many", bits.count(1, 3), 400);
        Check.due("the last one is there", bits.has(1, 399), true);
        Check.due("the one behind is not", bits.has(1, 400), false);
    }

    private static void wrongN(int n) {
        for (int f = 0; f < 3; f++) {
            int filter = f;
            Check.refused("addAll to " + f, ARGUMENT, Sample::some, bits -> bits.addAll(filter, 0, 1, n));
        }
    }

    private static void stepOfZero() {
        FewBits bits = Sample.runs();
        long x = Items.pair(2, 4, 3, 5, 0);
        Check.due("addAll", bits.addAll(0, x, 0, 3), 3);
        Check.dueCells("its slots", bits, 0, 46, 46, 0, 41);
    }

    private static void stepBelowZero() {
        FewBits bits = Sample.one(0, 3, 8, 20);
        Check.due("addAll", bits.addAll(0, 1, -1, 3), 3);
        Check.due("1, 0 and -1 are there", bits.has(0, 1) && bits.has(0, 0) && bits.has(0, -1), true);
        Check.due("2 and -2 are not", bits.has(0, 2) || bits.has(0, -2), false);
    }

    private static void wraps(long x, long step, long second) {
        FewBits bits = Sample.one(0, 3, 8, 20);
        Check.due("addAll", bits.addAll(0, x, step, 2), 2);
        Check.due("the first", bits.has(0, x), true);
        Check.due("the second", bits.has(0, second), true);
        Check.due("no third", bits.has(0, second + step), false);
    }

    private static void leastStep() {
        FewBits bits = Sample.one(0, 3, 8, 20);
        Check.due("addAll", bits.addAll(0, 5, Long.MIN_VALUE, 4), 4);
        for (int i = 0; i < 2; i++) {
            Check.due("5, removed as often as added", bits.remove(0, 5), 3 - 2 * i);
            Check.due("the other", bits.remove(0, 5 + Long.MIN_VALUE), 2 - 2 * i);
        }
    }

    private static void firstAtOnce() {
        for (int f = 0; f < 3; f++) {
            FewBits bits = Sample.full();
            String cells = Check.cells(bits, f);
            int had = bits.count(f, 3);
            Check.due("addAll to " + f, bits.addAll(f, 0, 1, 400), 0);
            Check.dueText("its cells", Check.cells(bits, f), cells);
            Check.due("how many", bits.count(f, 3), had);
        }
    }

    private static void lastRefused() {
        FewBits bits = Sample.runs();
        Check.due("five to four slots", bits.addAll(0, 0, 1, 5), 4);
        Check.due("how many", bits.count(0, 3), 4);
        bits.clear(0);
        Check.due("four to four slots", bits.addAll(0, 0, 1, 4), 4);
    }

    private static void noneBehindCounters() {
        FewBits bits = Sample.counters(3, 1);
        long full = Items.places(3, 6);
        long free = full + 1;
        int place = (int) (Model.mix(free, 0) & 7);
        bits.addAll(0, full, 0, 15);
        Check.due("the one behind has room", bits.addAll(0, free, 0, 1), 1);
        Check.due("addAll", bits.addAll(0, full, 1, 2), 0);
        Check.due("but it is not added", bits.cell(0, place), 1);
        Check.due("how many", bits.count(0, 3), 16);
    }

    private static void noneBehindBuckets() {
        FewBits bits = Sample.one(0, 2, 1, 4);
        long x = Items.print(1, 4, 14, 0, 0);
        Check.due("four of one bucket", bits.addAll(0, x, 0, 400), 4);
        Check.due("how many were pushed: by the one that is refused, too", bits.count(0, 5), 64);
        Check.dueCells("its slots", bits, 0, 14, 14, 14, 14, 0, 0, 0, 0);
        Check.due("how many", bits.count(0, 3), 4);
    }

    private static void ofThisCall() {
        FewBits bits = Sample.runs(0, 0, 1, 1);
        Check.due("addAll", bits.addAll(0, 0, 1, 1), 1);
        Check.due("up to the full one", bits.addAll(0, 0, 1, 9), 1);
        Check.due("in all", bits.count(0, 3), 4);
    }
}
