/** The boundary cases of promise 8: no items, the most, none or all of them there. */
public final class Boundary08HasAllTest {
    private static final Class<IllegalArgumentException> ARGUMENT = IllegalArgumentException.class;
    private static final Class<IndexOutOfBoundsException> INDEX = IndexOutOfBoundsException.class;
    private static final Class<IllegalStateException> STATE = IllegalStateException.class;

    public static void main(String[] args) {
        for (int f = 0; f < 3; f++) {
            int filter = f;
            Check.test("n is 0, kind " + (f + 1), () -> Check.due("hasAll", Sample.full().hasAll(filter, 0, 1, 0), 0));
            Check.test("n is 1: x alone, kind " + (f + 1), () -> oneItem(filter));
            Check.test("of an empty one, kind " + (f + 1),
                () -> Check.due("hasAll", Sample.empty().hasAll(filter, 0, 1, 400), 0));
            Check.test("it is a question: nothing is changed, kind " + (f + 1), () -> changesNothing(filter));
        }
        Check.test("n is 400: all are there", Boundary08HasAllTest::allAreThere);
        Check.test("n is 400: the last one counts, the one behind does not", Boundary08HasAllTest::theLastOne);
        for (int n : new int[] {-1, 401, Integer.MIN_VALUE, Integer.MAX_VALUE}) {
            Check.test("n is not 0 .. 400: " + n, () -> wrongN(n));
        }
        Check.test("one that is not there is no end", Boundary08HasAllTest::goesOn);
        Check.test("x, x + step, ..: step is 0", Boundary08HasAllTest::stepOfZero);
        Check.test("x, x + step, ..: step is below 0", Boundary08HasAllTest::stepBelowZero);
        Check.test("x, x + step, ..: over the greatest long", () -> wraps(Long.MAX_VALUE, 1, Long.MIN_VALUE));
        Check.test("x, x + step, ..: under the least long", () -> wraps(Long.MIN_VALUE, -1, Long.MAX_VALUE));
        Check.test("the one named first: no such number, and n too small",
            () -> Check.refused("hasAll", INDEX, Sample::some, bits -> bits.hasAll(-1, 0, 1, -1)));
        Check.test("the one named first: none, and n too large",
            () -> Check.refused("hasAll", STATE, Sample::some, bits -> bits.hasAll(3, 0, 1, 401)));
        Check.done();
    }

    private static void oneItem(int f) {
        FewBits bits = Sample.empty();
        Check.due("it is not there", bits.hasAll(f, 77, 5, 1), 0);
        bits.add(f, 77);
        Check.due("it is there", bits.hasAll(f, 77, 5, 1), 1);
    }

    private static void changesNothing(int f) {
        FewBits bits = Sample.some();
        bits.hasAll(f, 0, 1, 400);
        Check.dueText("the state", Check.state(bits), Check.state(Sample.some()));
    }

    private static void allAreThere() {
        Check.due("each counter is 15", Sample.full().hasAll(0, 0, 1, 400), 400);
        FewBits bits = Sample.one(0, 2, 8, 16);
        bits.addAll(0, -3, 7, 400);
        Check.due("buckets", bits.hasAll(0, -3, 7, 400), 400);
    }

    private static void theLastOne() {
        FewBits bits = Sample.one(0, 3, 8, 20);
        bits.add(0, 399);
        Check.due("the last of 400", bits.hasAll(0, 0, 1, 400), 1);
        Check.due("behind the last of 399", bits.hasAll(0, 0, 1, 399), 0);
        Check.due("the first of 400", bits.hasAll(0, 399, 1, 400), 1);
    }

    private static void wrongN(int n) {
        for (int f = 0; f < 3; f++) {
            int filter = f;
            Check.refused("hasAll of " + f, ARGUMENT, Sample::some, bits -> bits.hasAll(filter, 0, 1, n));
        }
    }

    private static void goesOn() {
        FewBits bits = Sample.one(0, 3, 8, 20);
        bits.add(0, 1);
        bits.add(0, 3);
        Check.due("0 and 2 are not there, 1 and 3 are", bits.hasAll(0, 0, 1, 4), 2);
    }

    private static void stepOfZero() {
        FewBits bits = Sample.one(0, 3, 8, 20);
        bits.add(0, 5);
        Check.due("one that is there", bits.hasAll(0, 5, 0, 400), 400);
        Check.due("one that is not", bits.hasAll(0, 6, 0, 400), 0);
    }

    private static void stepBelowZero() {
        FewBits bits = Sample.one(0, 3, 8, 20);
        bits.addAll(0, -2, 1, 3);
        Check.due("2, 1, 0, -1, -2, -3", bits.hasAll(0, 2, -1, 6), 3);
    }

    private static void wraps(long x, long step, long second) {
        FewBits bits = Sample.one(0, 3, 8, 20);
        bits.add(0, second);
        Check.due("the second of two", bits.hasAll(0, x, step, 2), 1);
        Check.due("not the first", bits.hasAll(0, x, step, 1), 0);
    }
}
