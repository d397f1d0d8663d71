/** Promise 3: make. */
public final class Promise03MakeTest {
    public static void main(String[] args) {
        edges(1, 3, 10, 1, 6);
        edges(2, 1, 8, 4, 16);
        edges(3, 2, 8, 4, 20);
        noSuchKind();
        whichComesFirst();
        whatIsRefusedChangesNothing();
        becomesANewOne();
        Check.done();
    }

    private static void edges(int kind, int leastA, int mostA, int leastB, int mostB) {
        for (int a = leastA; a <= mostA; a++) {
            FewBits bits = new FewBits();
            for (int b = leastB; b <= mostB; b++) {
                bits.make(3, kind, a, b);
                Check.due("its kind", bits.count(3, 0), kind);
                Check.due("its a", bits.count(3, 1), a);
                Check.due("its b", bits.count(3, 2), b);
                Check.due("empty", bits.count(3, 3) + bits.count(3, 4) + bits.count(3, 5), 0);
            }
        }
        refused(kind, leastA - 1, leastB);
        refused(kind, mostA + 1, leastB);
        refused(kind, leastA, leastB - 1);
        refused(kind, leastA, mostB + 1);
        refused(kind, Integer.MIN_VALUE, leastB);
        refused(kind, Integer.MAX_VALUE, leastB);
        refused(kind, leastA, Integer.MIN_VALUE);
        refused(kind, leastA, Integer.MAX_VALUE);
    }

    private static void refused(int kind, int a, int b) {
        FewBits bits = new FewBits();
        Check.dueThrow("make(0, " + kind + ", " + a + ", " + b + ")", IllegalArgumentException.class,
            () -> bits.make(0, kind, a, b));
        Check.dueThrow("it is still none", IllegalStateException.class, () -> bits.count(0, 0));
    }

    private static void noSuchKind() {
        refused(0, 4, 4);
        refused(4, 4, 4);
        refused(-1, 4, 4);
        refused(Integer.MIN_VALUE, 4, 4);
        refused(Integer.MAX_VALUE, 4, 4);
    }

    private static void whichComesFirst() {
        FewBits bits = new FewBits();
        Check.dueThrow("make(-1, 0, 0, 0)", IndexOutOfBoundsException.class, () -> bits.make(-1, 0, 0, 0));
        Check.dueThrow("make(4, 1, 3, 1)", IndexOutOfBoundsException.class, () -> bits.make(4, 1, 3, 1));
    }

    private static void whatIsRefusedChangesNothing() {
        FewBits bits = new FewBits();
        bits.make(1, 2, 3, 8);
        bits.addAll(1, 0, 1, 9);
        String before = Check.cells(bits, 1);
        Check.dueThrow("make(1, 2, 3, 17)", IllegalArgumentException.class, () -> bits.make(1, 2, 3, 17));
        Check.dueText("its cells", Check.cells(bits, 1), before);
        Check.due("how many", bits.count(1, 3), 9);
    }

    private static void becomesANewOne() {
        FewBits bits = new FewBits();
        for (int before = 1; before <= 3; before++) {
            for (int after = 1; after <= 3; after++) {
                bits.make(2, before, 3, 4);
                bits.addAll(2, 0, 1, 400);
                bits.make(2, after, 4, 5);
                Check.due("its kind", bits.count(2, 0), after);
                Check.due("none were added, none pushed", bits.count(2, 3) + bits.count(2, 4) + bits.count(2, 5), 0);
                Check.due("none is there", bits.hasAll(2, 0, 1, 400), 0);
                Check.dueText("its cells", Check.cells(bits, 2),
                    "0 ".repeat(after == 2 ? 64 : 16) + "throws.IndexOutOfBoundsException");
            }
        }
        bits.make(0, 3, 3, 4);
        bits.add(0, 7);
        bits.make(1, 3, 3, 4);
        Check.due("another filter is left alone", bits.count(0, 3), 1);
    }
}
