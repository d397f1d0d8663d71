import java.util.NoSuchElementException;

/** Promise 6: remove. */
public final class Promise06RemoveTest {
    private static final String END = "throws.IndexOutOfBoundsException";

    public static void main(String[] args) {
        counters();
        buckets();
        runs();
        wrongNumbers();
        Check.done();
    }

    private static void counters() {
        FewBits bits = new FewBits();
        bits.make(0, 1, 3, 3);
        bits.add(0, Items.places(3, 1, 2, 3));
        bits.add(0, Items.places(3, 4, 2, 5));
        long twice = Items.places(3, 1, 1, 3);
        Check.due("it is there", bits.has(0, twice), true);
        Check.dueThrow("but 1 would be below 0", NoSuchElementException.class, () -> bits.remove(0, twice));
        Check.dueThrow("6 would be below 0", NoSuchElementException.class,
            () -> bits.remove(0, Items.places(3, 2, 3, 6)));
        Check.dueText("its cells", Check.cells(bits, 0), "0 1 2 1 1 1 0 0 " + END);
        Check.due("one that looks the same", bits.remove(0, Items.places(3, 3, 1, 2)), 1);
        Check.dueText("its cells", Check.cells(bits, 0), "0 0 1 0 1 1 0 0 " + END);
        bits.add(0, Items.places(3, 7, 2, 7));
        Check.due("a place twice", bits.remove(0, Items.places(3, 7, 7, 2)), 1);
        Check.dueText("its cells", Check.cells(bits, 0), "0 0 1 0 1 1 0 0 " + END);
        Check.due("the last", bits.remove(0, Items.places(3, 4, 2, 5)), 0);
        Check.dueThrow("none is left", NoSuchElementException.class,
            () -> bits.remove(0, Items.places(3, 4, 2, 5)));
    }

    private static void buckets() {
        FewBits bits = new FewBits();
        bits.make(0, 2, 1, 4);
        long fromZero = Items.print(1, 4, 8, 0, 0);
        long fromOne = Items.print(1, 4, 8, 1, 0);
        bits.add(0, Items.print(1, 4, 14, 0, 0));
        bits.addAll(0, fromZero, 0, 2);
        bits.addAll(0, fromOne, 0, 2);
        Check.dueText("its cells", Check.cells(bits, 0), "14 8 8 0 8 8 0 0 " + END);
        Check.due("first bucket, first slot", bits.remove(0, fromOne), 4);
        Check.dueText("its cells", Check.cells(bits, 0), "14 8 8 0 0 8 0 0 " + END);
        bits.remove(0, fromOne);
        Check.due("else the second bucket", bits.remove(0, fromOne), 2);
        Check.dueText("its cells", Check.cells(bits, 0), "14 0 8 0 0 0 0 0 " + END);
        Check.dueThrow("not in its only bucket", NoSuchElementException.class,
            () -> bits.remove(0, Items.print(1, 4, 14, 1, 0)));
        Check.dueThrow("not at all", NoSuchElementException.class,
            () -> bits.remove(0, Items.print(1, 4, 10, 0, 0)));
        Check.dueText("its cells", Check.cells(bits, 0), "14 0 8 0 0 0 0 0 " + END);
        Check.due("how many", bits.count(0, 3), 2);
    }

    private static void runs() {
        FewBits bits = new FewBits();
        bits.make(0, 3, 2, 4);
        bits.addAll(0, Items.pair(2, 4, 1, 7, 0), 0, 2);
        bits.add(0, Items.pair(2, 4, 1, 3, 0));
        bits.add(0, Items.pair(2, 4, 2, 0, 0));
        Check.dueText("its cells", Check.cells(bits, 0), "4 25 63 62 " + END);
        Check.due("one that looks the same", bits.remove(0, Items.pair(2, 4, 1, 7, 1)), 3);
        Check.dueText("its cells", Check.cells(bits, 0), "0 25 63 4 " + END);
        Check.dueThrow("another remainder", NoSuchElementException.class,
            () -> bits.remove(0, Items.pair(2, 4, 1, 8, 0)));
        Check.dueThrow("behind all", NoSuchElementException.class,
            () -> bits.remove(0, Items.pair(2, 4, 3, 15, 0)));
        Check.due("how many", bits.count(0, 3), 3);
        Check.due("the first of its run", bits.remove(0, Items.pair(2, 4, 1, 3, 0)), 2);
        Check.dueText("its cells", Check.cells(bits, 0), "0 57 1 0 " + END);
        bits.remove(0, Items.pair(2, 4, 2, 0, 0));
        Check.due("the last", bits.remove(0, Items.pair(2, 4, 1, 7, 0)), 0);
        Check.dueThrow("none is left", NoSuchElementException.class,
            () -> bits.remove(0, Items.pair(2, 4, 1, 7, 0)));
    }

    private static void wrongNumbers() {
        FewBits bits = new FewBits();
        Check.dueThrow("remove(4, 0)", IndexOutOfBoundsException.class, () -> bits.remove(4, 0));
        Check.dueThrow("remove(3, 0)", IllegalStateException.class, () -> bits.remove(3, 0));
    }
}
