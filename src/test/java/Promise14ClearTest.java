/** Promise 14: clear. */
public final class Promise14ClearTest {
    public static void main(String[] args) {
        for (int kind = 1; kind <= 3; kind++) {
            isEmptyThen(kind);
        }
        wrongNumbers();
        Check.done();
    }

    private static void isEmptyThen(int kind) {
        FewBits bits = new FewBits();
        bits.make(0, kind, 3, 5);
        bits.make(1, kind, 3, 5);
        int had = bits.addAll(0, 0, 1, 400);
        bits.add(1, 0);
        Check.due("how many it had", bits.clear(0), had);
        Check.due("its kind", bits.count(0, 0), kind);
        Check.due("its a", bits.count(0, 1), 3);
        Check.due("its b", bits.count(0, 2), 5);
        Check.due("how many", bits.count(0, 3), 0);
        Check.due("what has something", bits.count(0, 4), 0);
        Check.due("nothing was pushed, either", bits.count(0, 5), 0);
        Check.due("none is there", bits.hasAll(0, 0, 1, 400), 0);
        Check.dueText("its cells", Check.cells(bits, 0),
            "0 ".repeat(kind == 2 ? 32 : 8) + "throws.IndexOutOfBoundsException");
        Check.due("empty already", bits.clear(0), 0);
        Check.due("another one is left alone", bits.count(1, 3), 1);
        Check.due("as many as at first", bits.addAll(0, 0, 1, 400), had);
    }

    private static void wrongNumbers() {
        FewBits bits = new FewBits();
        Check.dueThrow("none", IllegalStateException.class, () -> bits.clear(3));
        Check.dueThrow("no number", IndexOutOfBoundsException.class, () -> bits.clear(4));
        Check.dueThrow("no number", IndexOutOfBoundsException.class, () -> bits.clear(-1));
    }
}
