/** The boundary cases of promise 3: the least and the greatest numbers of a kind, and what make leaves behind. */
public final class Boundary03MakeTest {
    private static final Class<IllegalArgumentException> ARGUMENT = IllegalArgumentException.class;
    private static final Class<IndexOutOfBoundsException> INDEX = IndexOutOfBoundsException.class;

    public static void main(String[] args) {
        numbers("1 COUNTERS: a is 3 .. 10, b is 1 .. 6", 1, 3, 10, 1, 6);
        numbers("2 BUCKETS: a is 1 .. 8, b is 4 .. 16", 2, 1, 8, 4, 16);
        numbers("3 RUNS: a is 2 .. 8, b is 4 .. 20", 3, 2, 8, 4, 20);
        for (int kind : new int[] {0, 4, -1, Integer.MIN_VALUE, Integer.MAX_VALUE}) {
            Check.test("there is no such kind: " + kind, () -> refused(kind, 4, 4));
        }
        for (int before = 1; before <= 3; before++) {
            for (int after = 1; after <= 3; after++) {
                int first = before;
                int second = after;
                Check.test("a filter becomes a new one, empty: a full one of kind " + before + ", then kind " + after,
                    () -> becomesEmpty(first, second));
            }
        }
        Check.test("becomes a new one: of the same kind and numbers", Boundary03MakeTest::theSameAgain);
        Check.test("becomes a new one: smaller, and large again", Boundary03MakeTest::smallerAndLargeAgain);
        Check.test("becomes a new one: another kind, and the first again", Boundary03MakeTest::anotherAndTheFirst);
        Check.test("becomes a new one: others stay as they are", Boundary03MakeTest::othersStay);
        Check.test("the one named first: no such number, and no such kind",
            () -> Check.refused("make", INDEX, Sample::some, bits -> bits.make(4, 0, 4, 4)));
        Check.test("the one named first: no such number, and a too small",
            () -> Check.refused("make", INDEX, Sample::some, bits -> bits.make(-1, 1, 2, 1)));
        Check.test("a call that throws changes nothing: of none",
            () -> Check.refused("make", ARGUMENT, Sample::some, bits -> bits.make(3, 3, 9, 4)));
        Check.test("a call that throws changes nothing: of one that is full", Boundary03MakeTest::fullStays);
        Check.done();
    }

    private static void numbers(String sentence, int kind, int leastA, int mostA, int leastB, int mostB) {
        for (int a : new int[] {leastA, mostA}) {
            for (int b : new int[] {leastB, mostB}) {
                Check.test(sentence + ": " + a + " and " + b, () -> accepted(kind, a, b));
            }
        }
        for (int b : new int[] {leastB, mostB}) {
            for (int a : new int[] {leastA - 1, mostA + 1, Integer.MIN_VALUE, Integer.MAX_VALUE}) {
                Check.test(sentence + ": a " + a + " is not", () -> refused(kind, a, b));
            }
        }
        for (int a : new int[] {leastA, mostA}) {
            for (int b : new int[] {leastB - 1, mostB + 1, Integer.MIN_VALUE, Integer.MAX_VALUE}) {
                Check.test(sentence + ": b " + b + " is not", () -> refused(kind, a, b));
            }
        }
    }

    private static void accepted(int kind, int a, int b) {
        FewBits bits = new FewBits();
        bits.make(2, kind, a, b);
        int[] counts = {kind, a, b, 0, 0, 0};
        for (int what = 0; what < 6; what++) {
            Check.due("count " + what, bits.count(2, what), counts[what]);
        }
        int cells = kind == 2 ? 4 << a : 1 << a;
        Check.due("its first cell", bits.cell(2, 0), 0);
        Check.due("its last cell", bits.cell(2, cells - 1), 0);
        Check.dueThrow("behind its last cell", INDEX, () -> bits.cell(2, cells));
        Check.due("it takes an item", bits.add(2, 9), 1);
    }

    private static void refused(int kind, int a, int b) {
        Check.refused("make(3, " + kind + ", " + a + ", " + b + ")", ARGUMENT, Sample::some,
            bits -> bits.make(3, kind, a, b));
    }

    private static void dueEmpty(FewBits bits, int f, int kind, int a, int b) {
        Check.due("its kind", bits.count(f, 0), kind);
        Check.due("its a", bits.count(f, 1), a);
        Check.due("its b", bits.count(f, 2), b);
        Check.due("how many", bits.count(f, 3), 0);
        Check.due("what has something", bits.count(f, 4), 0);
        Check.due("the greatest counter, how many were pushed, the longest row", bits.count(f, 5), 0);
        Check.dueCells("its cells", bits, f, new int[kind == 2 ? 4 << a : 1 << a]);
    }

    private static void becomesEmpty(int before, int after) {
        FewBits bits = Sample.full();
        int f = before - 1;
        // What is refused pushes, so that there is something to forget.
        bits.addAll(1, Items.print(1, 4, 14, 0, 0), 0, 1);
        bits.make(f, after, 4, 5);
        dueEmpty(bits, f, after, 4, 5);
        Check.due("none is there", bits.hasAll(f, 0, 1, 400), 0);
    }

    private static void theSameAgain() {
        FewBits bits = Sample.full();
        bits.addAll(1, Items.print(1, 4, 14, 0, 0), 0, 1);
        bits.make(0, 1, 3, 2);
        bits.make(1, 2, 1, 4);
        bits.make(2, 3, 2, 5);
        Check.dueText("as if nothing had been", Check.state(bits), Check.state(Sample.empty()));
    }

    private static void smallerAndLargeAgain() {
        int[] least = {0, 3, 1, 2};
        for (int kind = 1; kind <= 3; kind++) {
            FewBits bits = Sample.one(0, kind, 6, 6);
            bits.addAll(0, 0, 1, 400);
            bits.make(0, kind, least[kind], 4);
            bits.make(0, kind, 6, 6);
            dueEmpty(bits, 0, kind, 6, 6);
        }
    }

    private static void anotherAndTheFirst() {
        for (int kind = 1; kind <= 3; kind++) {
            FewBits bits = Sample.full();
            int f = kind - 1;
            bits.addAll(1, Items.print(1, 4, 14, 0, 0), 0, 1);
            bits.make(f, 1 + kind % 3, 3, 4);
            bits.addAll(f, 0, 1, 400);
            bits.make(f, kind, 3, 4);
            dueEmpty(bits, f, kind, 3, 4);
        }
    }

    private static void othersStay() {
        for (int kind = 1; kind <= 3; kind++) {
            FewBits bits = Sample.some();
            bits.make(3, kind, 3, 4);
            bits.addAll(3, 0, 1, 400);
            FewBits untouched = Sample.some();
            for (int f = 0; f < 3; f++) {
                Check.dueText("the cells of " + f, Check.cells(bits, f), Check.cells(untouched, f));
                Check.due("how many has " + f, bits.count(f, 3), 2);
            }
        }
    }

    private static void fullStays() {
        for (int f = 0; f < 3; f++) {
            int filter = f;
            Check.refused("make, a too great", ARGUMENT, Sample::full, bits -> bits.make(filter, 1, 11, 1));
            Check.refused("make, b too small", ARGUMENT, Sample::full, bits -> bits.make(filter, 2, 1, 3));
            Check.refused("make, no such kind", ARGUMENT, Sample::full, bits -> bits.make(filter, 4, 4, 4));
        }
    }
}
