import java.util.Arrays;

/** The boundary cases of promise 11: the first and the last cell, and what lies where round about. */
public final class Boundary11CellTest {
    private static final Class<IndexOutOfBoundsException> INDEX = IndexOutOfBoundsException.class;
    private static final Class<IllegalStateException> STATE = IllegalStateException.class;

    public static void main(String[] args) {
        for (int kind = 1; kind <= 3; kind++) {
            for (int a : kind == 1 ? new int[] {3, 10} : kind == 2 ? new int[] {1, 8} : new int[] {2, 8}) {
                int which = kind;
                Check.test("there is no such counter or slot: kind " + kind + " with a = " + a,
                    () -> firstAndLast(which, a));
            }
        }
        Check.test("there is no such slot: of a smaller one, made where a larger one was",
            Boundary11CellTest::madeSmaller);
        Check.test("there is no such slot: not before it has grown", Boundary11CellTest::grown);
        for (int f : new int[] {-1, 4, Integer.MIN_VALUE, Integer.MAX_VALUE}) {
            Check.test("it is none (also: there is no filter of that number): " + f, () -> isNone(f));
        }
        Check.test("it is none", () -> isNone(3));
        Check.test("a call that throws changes nothing", Boundary11CellTest::refused);
        Check.test("it is a question: nothing is changed", Boundary11CellTest::changesNothing);
        counters();
        buckets();
        runs();
        Check.done();
    }

    private static void firstAndLast(int kind, int a) {
        int cells = kind == 2 ? 4 << a : 1 << a;
        FewBits bits = Sample.one(1, kind, a, 4);
        Check.due("the first", bits.cell(1, 0), 0);
        Check.due("the last", bits.cell(1, cells - 1), 0);
        for (int i : new int[] {-1, cells, Integer.MIN_VALUE, Integer.MAX_VALUE}) {
            Check.dueThrow("cell " + i, INDEX, () -> bits.cell(1, i));
        }
    }

    private static void madeSmaller() {
        int[] least = {0, 3, 1, 2};
        for (int kind = 1; kind <= 3; kind++) {
            FewBits bits = Sample.one(0, kind, 8, 4);
            bits.addAll(0, 0, 1, 400);
            bits.make(0, kind, least[kind], 4);
            Check.due("the last", bits.cell(0, kind == 3 ? 3 : 7), 0);
            Check.dueThrow("behind it", INDEX, () -> bits.cell(0, 8));
        }
    }

    private static void grown() {
        FewBits bits = Sample.one(0, 3, 2, 5);
        Check.dueThrow("slot 4 of 4", INDEX, () -> bits.cell(0, 4));
        bits.grow(0);
        Check.due("slot 7 of 8", bits.cell(0, 7), 0);
        Check.dueThrow("slot 8 of 8", INDEX, () -> bits.cell(0, 8));
    }

    private static void isNone(int f) {
        for (int i : new int[] {0, -1, 4, Integer.MIN_VALUE, Integer.MAX_VALUE}) {
            Check.refused("cell " + i, STATE, Sample::some, bits -> bits.cell(f, i));
        }
    }

    private static void refused() {
        int[] cells = {8, 8, 4};
        for (int f = 0; f < 3; f++) {
            int filter = f;
            Check.refused("before the first", INDEX, Sample::some, bits -> bits.cell(filter, -1));
            Check.refused("behind the last", INDEX, Sample::some, bits -> bits.cell(filter, cells[filter]));
        }
    }

    private static void changesNothing() {
        FewBits bits = Sample.some();
        String once = Check.state(bits);
        Check.dueText("the state, looked at twice", Check.state(bits), once);
    }

    private static void counters() {
        Check.test("counter i: of an empty one", () -> Check.dueCells("cells", Sample.empty(), 0, new int[8]));
        Check.test("counter i: of a full one",
            () -> Check.dueCells("cells", Sample.full(), 0, 15, 15, 15, 15, 15, 15, 15, 15));
        Check.test("counter i: the first and the last", Boundary11CellTest::outermostCounters);
    }

    private static void outermostCounters() {
        FewBits bits = Sample.counters(3, 1);
        bits.addAll(0, Items.places(3, 0), 0, 2);
        bits.addAll(0, Items.places(3, 7), 0, 3);
        Check.dueCells("cells", bits, 0, 2, 0, 0, 0, 0, 0, 0, 3);
    }

    private static void buckets() {
        Check.test("0 for none: of an empty one", () -> Check.dueCells("cells", Sample.empty(), 1, new int[8]));
        Check.test("slot i % 4 of bucket i / 4: of a full one",
            () -> Check.dueCells("cells", Sample.full(), 1, 14, 14, 14, 14, 9, 9, 9, 9));
        Check.test("slot i % 4 of bucket i / 4: each another",
            () -> Check.dueCells("cells", Sample.buckets(new int[] {1, 2, 3, 4}, new int[] {5, 6, 7, 8},
                new int[] {9, 10, 11, 12}, new int[] {13, 14, 15, 1}), 0,
                1, 2, 3, 4, 5, 6, 7, 8, 9, 10, 11, 12, 13, 14, 15, 1));
        Check.test("0 for none: one that was removed between others", Boundary11CellTest::removedBetween);
        Check.test("0 for none: a fingerprint is never 0", Boundary11CellTest::neverZero);
    }

    private static void removedBetween() {
        FewBits bits = Sample.buckets(new int[] {1, 13, 3});
        bits.remove(0, Items.print(2, 4, 13, 0, 0));
        Check.dueCells("cells", bits, 0, 1, 0, 3, 0, 0, 0, 0, 0, 0, 0, 0, 0, 0, 0, 0, 0);
    }

    private static void neverZero() {
        FewBits bits = Sample.buckets(new int[] {0, 0});
        Check.dueCells("cells", bits, 0, 1, 1, 0, 0, 0, 0, 0, 0, 0, 0, 0, 0, 0, 0, 0, 0);
    }

    /** Remainder times 8, and 1 claimed, 2 follows, 4 moved. */
    private static void runs() {
        runCells("not used: 0", "", 0, 0, 0, 0);
        runCells("claimed: remainder 0 in its slot", "0 0", 1, 0, 0, 0);
        runCells("claimed: the greatest remainder in the last slot", "3 15", 0, 0, 0, 121);
        runCells("in rising order: added falling", "0 9 0 5 0 1", 9, 46, 78, 0);
        runCells("in rising order: the same twice", "0 5 0 5", 41, 46, 0, 0);
        runCells("follows and is moved: in a slot that is not claimed", "1 0 1 0", 0, 1, 6, 0);
        runCells("follows and is moved: in a slot that is claimed", "1 0 1 0 2 3", 0, 1, 7, 28);
        runCells("moved: the first one of its run, in a slot that is not claimed", "0 1 0 2 1 3", 9, 23, 28, 0);
        runCells("moved: the first one of its run, in a slot that is claimed", "0 1 0 2 1 3 2 4", 9, 23, 29, 36);
        runCells("round about: a run over the end", "3 1 3 2", 22, 0, 0, 9);
        runCells("round about: a run over the end moves that of 0", "3 1 3 2 0 3", 23, 28, 0, 9);
        runCells("round about: a run over the end is not in order with that of 0", "3 14 3 15 0 0", 127, 4, 0, 113);
        runCells("round about: the run of the last slot begins behind the end", "2 1 2 2 3 3", 28, 0, 9, 23);
        runCells("round about: that moves the run of 0", "2 1 2 2 3 3 0 4", 29, 36, 9, 23);
        runCells("round about: the run of 1 is moved by that of 3", "3 1 3 2 3 3 1 4", 22, 31, 36, 9);
        runCells("round about: a gap before the run of 1", "3 1 3 2 1 4", 22, 33, 0, 9);
        runCells("as many pairs as slots: each in its own", "0 0 1 1 2 2 3 3", 1, 9, 17, 25);
        for (int quotient = 0; quotient < 4; quotient++) {
            oneRunAlone(quotient);
        }
        runCells("as many pairs as slots: two runs round about", "1 1 1 2 3 3 3 4", 38, 9, 22, 25);
        runCells("as many pairs as slots: just up to the end, and not over it", "1 1 1 2 1 3 0 4", 33, 9, 22, 30);
        runCells("as many pairs as slots: the last run begins behind the end", "1 1 1 2 1 3 2 4", 36, 9, 23, 30);
        Check.test("as many pairs as slots: of eight, four runs", Boundary11CellTest::eightSlots);
        Check.test("the greatest remainder of 20 bits", Boundary11CellTest::twentyBits);
        Check.test("all 256 slots, one run from the first slot on", () -> longestRun(0));
        Check.test("all 256 slots, one run from the last slot on", () -> longestRun(255));
    }

    private static void runCells(String what, String pairs, int... want) {
        int[] numbers = pairs.isEmpty() ? new int[0]
            : Arrays.stream(pairs.split(" ")).mapToInt(Integer::parseInt).toArray();
        Check.test(what, () -> {
            Check.dueCells("cells of " + pairs, Sample.runs(numbers), 0, want);
            // Where runs lie does not hang on the order in which they came.
            int[] backwards = new int[numbers.length];
            for (int i = 0; i < numbers.length; i += 2) {
                backwards[i] = numbers[numbers.length - 2 - i];
                backwards[i + 1] = numbers[numbers.length - 1 - i];
            }
            Check.dueCells("cells of " + pairs + ", backwards", Sample.runs(backwards), 0, want);
        });
    }

    private static void oneRunAlone(int quotient) {
        int[] want = new int[4];
        for (int i = 0; i < 4; i++) {
            want[(quotient + i) % 4] = 8 * (i + 1) + (i == 0 ? 1 : 6);
        }
        runCells("as many pairs as slots: one run from slot " + quotient,
            quotient + " 1 " + quotient + " 2 " + quotient + " 3 " + quotient + " 4", want);
    }

    private static void eightSlots() {
        FewBits bits = Sample.one(0, 3, 3, 4);
        Sample.addPairs(bits, 0, 3, 4, 6, 1, 6, 2, 6, 3, 6, 4, 0, 5, 1, 6, 1, 7, 5, 8);
        // 5: 8 in its own, 6: 1 to 4 in 6, 7, 0 and 1, 0: 5 in 2, 1: 6 and 7 in 3 and 4.
        Check.dueCells("cells", bits, 0, 31, 39, 44, 52, 62, 65, 9, 22);
    }

    private static void twentyBits() {
        FewBits bits = Sample.one(0, 3, 8, 20);
        bits.addAll(0, Items.pair(8, 20, 255, 1048575, 0), 0, 2);
        Check.due("slot 255", bits.cell(0, 255), 8388601);
        Check.due("slot 0", bits.cell(0, 0), 8388606);
        Check.due("slot 1", bits.cell(0, 1), 0);
    }

    private static void longestRun(int quotient) {
        FewBits bits = Sample.one(0, 3, 8, 4);
        Check.due("addAll", bits.addAll(0, Items.pair(8, 4, quotient, 7, 0), 0, 400), 256);
        for (int i = 0; i < 256; i++) {
            Check.due("slot " + i, bits.cell(0, i), i == quotient ? 57 : 62);
        }
    }
}
