/** The boundary cases of promise 14: an empty one, a full one, and one that has grown or has pushed. */
public final class Boundary14ClearTest {
    private static final Class<IndexOutOfBoundsException> INDEX = IndexOutOfBoundsException.class;
    private static final Class<IllegalStateException> STATE = IllegalStateException.class;

    public static void main(String[] args) {
        int[] most = {60, 8, 4};
        for (int f = 0; f < 3; f++) {
            int filter = f;
            Check.test("how many it had: none, kind " + (f + 1), () -> cleared(Sample.empty(), filter, 0));
            Check.test("how many it had: two, kind " + (f + 1), () -> cleared(Sample.some(), filter, 2));
            Check.test("how many it had: a full one, kind " + (f + 1),
                () -> cleared(Sample.full(), filter, most[filter]));
            Check.test("how many it had: twice cleared, kind " + (f + 1), () -> twice(filter));
            Check.test("is empty: takes as much as a new one, kind " + (f + 1), () -> asANewOne(filter));
            Check.test("others stay as they are, kind " + (f + 1), () -> othersStay(filter));
        }
        Check.test("nothing was pushed, either", Boundary14ClearTest::nothingWasPushed);
        Check.test("nothing was pushed, either: by none that is there, but by what was refused",
            Boundary14ClearTest::pushedByRefusedAlone);
        Check.test("a filter is empty, of its kind and numbers: one that has grown", Boundary14ClearTest::grown);
        Check.test("how many it had: when some were removed", Boundary14ClearTest::removed);
        Check.test("how many it had: when others came by merge", Boundary14ClearTest::merged);
        Check.test("it is none", () -> Check.refused("clear", STATE, Sample::some, bits -> bits.clear(3)));
        for (int f : new int[] {-1, 4, Integer.MIN_VALUE, Integer.MAX_VALUE}) {
            Check.test("there is no filter of that number: " + f,
                () -> Check.refused("clear", INDEX, Sample::some, bits -> bits.clear(f)));
        }
        Check.done();
    }

    private static void cleared(FewBits bits, int f, int had) {
        FewBits empty = Sample.empty();
        Check.due("clear", bits.clear(f), had);
        for (int what = 0; what < 6; what++) {
            Check.due("count " + what, bits.count(f, what), empty.count(f, what));
        }
        Check.dueText("its cells", Check.cells(bits, f), Check.cells(empty, f));
        Check.due("none is there", bits.hasAll(f, 0, 1, 400), 0);
    }

    private static void twice(int f) {
        FewBits bits = Sample.some();
        Check.due("once", bits.clear(f), 2);
        Check.due("twice", bits.clear(f), 0);
    }

    private static void asANewOne(int f) {
        FewBits bits = Sample.full();
        FewBits empty = Sample.empty();
        bits.clear(f);
        Check.due("addAll", bits.addAll(f, 0, 1, 400), empty.addAll(f, 0, 1, 400));
        Check.dueText("its cells", Check.cells(bits, f), Check.cells(empty, f));
        Check.due("count 5", bits.count(f, 5), empty.count(f, 5));
    }

    private static void othersStay(int f) {
        FewBits bits = Sample.full();
        FewBits untouched = Sample.full();
        bits.clear(f);
        for (int other = 0; other < 3; other++) {
            if (other != f) {
                Check.dueText("the cells of " + other, Check.cells(bits, other), Check.cells(untouched, other));
                Check.due("how many has " + other, bits.count(other, 3), untouched.count(other, 3));
            }
        }
    }

    private static void nothingWasPushed() {
        FewBits bits = Sample.buckets(new int[] {}, new int[] {11, 6, 15, 3});
        bits.add(0, Items.print(2, 4, 13, 1, 0));
        Check.due("pushed before", bits.count(0, 5), 1);
        Check.due("clear", bits.clear(0), 5);
        Check.due("pushed then", bits.count(0, 5), 0);
    }

    private static void pushedByRefusedAlone() {
        FewBits bits = Sample.full();
        bits.addAll(1, 0, 1, 1);
        Check.due("pushed before", bits.count(1, 5), 64);
        Check.due("clear", bits.clear(1), 8);
        Check.due("pushed then", bits.count(1, 5), 0);
    }

    private static void grown() {
        FewBits bits = Sample.full();
        bits.grow(2);
        Check.due("clear", bits.clear(2), 4);
        Check.due("a", bits.count(2, 1), 3);
        Check.due("b", bits.count(2, 2), 4);
        Check.dueCells("its slots", bits, 2, new int[8]);
    }

    private static void removed() {
        FewBits bits = Sample.runs(0, 1, 0, 2, 3, 3);
        bits.remove(0, Items.pair(2, 4, 0, 2, 0));
        Check.due("clear", bits.clear(0), 2);
    }

    private static void merged() {
        FewBits bits = Sample.some();
        bits.make(3, 3, 2, 5);
        bits.add(3, 1);
        bits.merge(3, 2);
        Check.due("clear", bits.clear(3), 3);
        Check.due("g has its own", bits.clear(2), 2);
    }
}
