/** Promise 5: addAll. */
public final class Promise05AddAllTest {
    public static void main(String[] args) {
        asManyAsOneByOne();
        upToTheFirstRefused();
        wrongNumbers();
        overTheEndOfLongs();
        Check.done();
    }

    private static void asManyAsOneByOne() {
        for (int kind = 1; kind <= 3; kind++) {
            FewBits bits = Sample.one(0, kind, 6, 6);
            FewBits oneByOne = Sample.one(0, kind, 6, 6);
            Check.due("addAll", bits.addAll(0, 5, -7, 40), 40);
            for (int i = 0; i < 40; i++) {
                oneByOne.add(0, 5 - 7 * i);
            }
            Check.dueText("kind " + kind, Check.cells(bits, 0), Check.cells(oneByOne, 0));
            Check.due("how many", bits.count(0, 3), 40);
            Check.due("n is 0", bits.addAll(0, 5, 1, 0), 0);
            Check.due("how many", bits.count(0, 3), 40);
        }
        FewBits bits = new FewBits();
        bits.make(0, 1, 10, 1);
        Check.due("n is 400", bits.addAll(0, 0, 1, 400), 400);
        Check.due("how many", bits.count(0, 3), 400);
    }

    private static void upToTheFirstRefused() {
        FewBits bits = new FewBits();
        bits.make(0, 1, 3, 1);
        Check.due("step 0", bits.addAll(0, 3, 0, 400), 15);
        Check.due("how many", bits.count(0, 3), 15);
        Check.due("refused at once", bits.addAll(0, 3, 1, 400), 0);
        bits.make(1, 3, 2, 4);
        Check.due("four slots", bits.addAll(1, 0, 1, 5), 4);
        Check.due("how many", bits.count(1, 3), 4);
        bits.make(2, 2, 1, 4);
        long x = Items.print(1, 4, 14, 0, 0);
        Check.due("four of a fingerprint with one bucket", bits.addAll(2, x, 0, 9), 4);
        Check.due("one was refused, behind it none were tried", bits.count(2, 5), 64);
    }

    private static void wrongNumbers() {
        FewBits bits = new FewBits();
        bits.make(0, 1, 10, 1);
        for (int n : new int[] {-1, 401, Integer.MIN_VALUE, Integer.MAX_VALUE}) {
            Check.dueThrow("n is " + n, IllegalArgumentException.class, () -> bits.addAll(0, 0, 1, n));
            Check.dueThrow("none", IllegalStateException.class, () -> bits.addAll(1, 0, 1, n));
            Check.dueThrow("no number", IndexOutOfBoundsException.class, () -> bits.addAll(4, 0, 1, n));
        }
        Check.due("nothing was added", bits.count(0, 3), 0);
    }

    private static void overTheEndOfLongs() {
        FewBits bits = new FewBits();
        bits.make(0, 3, 8, 20);
        Check.due("addAll", bits.addAll(0, Long.MAX_VALUE, 1, 2), 2);
        Check.due("the greatest", bits.has(0, Long.MAX_VALUE), true);
        Check.due("the least", bits.has(0, Long.MIN_VALUE), true);
        Check.due("not another", bits.has(0, Long.MIN_VALUE + 1), false);
    }
}
