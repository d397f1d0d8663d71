/** Promise 11: cell. */
public final class Promise11CellTest {
    private static final String END = "throws.IndexOutOfBoundsException";

    public static void main(String[] args) {
        counters();
        buckets();
        runsBehindOneAnother();
        runsOverTheEnd();
        aFullCircle();
        wrongNumbers();
        Check.done();
    }

    private static void counters() {
        FewBits bits = new FewBits();
        bits.make(0, 1, 3, 1);
        bits.addAll(0, Items.places(3, 0), 0, 2);
        bits.addAll(0, Items.places(3, 7), 0, 15);
        Check.dueText("counters", Check.cells(bits, 0), "2 0 0 0 0 0 0 15 " + END);
    }

    private static void buckets() {
        FewBits bits = new FewBits();
        bits.make(0, 2, 2, 5);
        bits.add(0, Items.print(2, 5, 31, 3, 0));
        bits.add(0, Items.print(2, 5, 16, 3, 0));
        bits.add(0, Items.print(2, 5, 0, 1, 0));
        Check.dueText("buckets", Check.cells(bits, 0), "0 0 0 0 1 0 0 0 0 0 0 0 31 16 0 0 " + END);
    }

    private static void runsBehindOneAnother() {
        FewBits bits = new FewBits();
        bits.make(0, 3, 3, 5);
        bits.add(0, Items.pair(3, 5, 3, 0, 0));
        bits.add(0, Items.pair(3, 5, 1, 30, 0));
        bits.add(0, Items.pair(3, 5, 1, 2, 0));
        bits.add(0, Items.pair(3, 5, 2, 0, 0));
        bits.add(0, Items.pair(3, 5, 6, 31, 0));
        // 1: 2 and 30 in slots 1 and 2, 2: 0 moved to 3, 3: 0 moved to 4, 6: 31 in its own.
        Check.dueText("runs", Check.cells(bits, 0),
            "0 " + (2 * 8 + 1) + " " + (30 * 8 + 1 + 2 + 4) + " " + (1 + 4) + " " + 4 + " 0 " + (31 * 8 + 1) + " 0 "
                + END);
    }

    private static void runsOverTheEnd() {
        FewBits bits = new FewBits();
        bits.make(0, 3, 2, 4);
        bits.add(0, Items.pair(2, 4, 0, 5, 0));
        bits.add(0, Items.pair(2, 4, 3, 9, 0));
        bits.add(0, Items.pair(2, 4, 3, 9, 0));
        // 3: 9 in slot 3 and moved to 0, 0: 5 moved to 1.
        Check.dueText("over the end", Check.cells(bits, 0),
            (9 * 8 + 1 + 2 + 4) + " " + (5 * 8 + 4) + " 0 " + (9 * 8 + 1) + " " + END);
    }

    private static void aFullCircle() {
        FewBits bits = new FewBits();
        bits.make(0, 3, 2, 4);
        bits.add(0, Items.pair(2, 4, 2, 3, 0));
        bits.add(0, Items.pair(2, 4, 2, 2, 0));
        bits.add(0, Items.pair(2, 4, 2, 1, 0));
        bits.add(0, Items.pair(2, 4, 2, 0, 0));
        Check.dueText("one run", Check.cells(bits, 0),
            (2 * 8 + 2 + 4) + " " + (3 * 8 + 2 + 4) + " 1 " + (8 + 2 + 4) + " " + END);
        bits.clear(0);
        bits.addAll(0, Items.pair(2, 4, 3, 7, 0), 0, 2);
        bits.add(0, Items.pair(2, 4, 2, 1, 0));
        bits.add(0, Items.pair(2, 4, 2, 2, 0));
        // 2: 1 and 2 in slots 2 and 3, 3: 7 and 7 moved to 0 and 1.
        Check.dueText("two runs", Check.cells(bits, 0),
            (7 * 8 + 4) + " " + (7 * 8 + 2 + 4) + " " + (8 + 1) + " " + (2 * 8 + 1 + 2 + 4) + " " + END);
    }

    private static void wrongNumbers() {
        FewBits bits = new FewBits();
        int[] sizes = {0, 1 << 10, 4 << 8, 1 << 8};
        int[] mostA = {0, 10, 8, 8};
        for (int kind = 1; kind <= 3; kind++) {
            bits.make(0, kind, mostA[kind], 5);
            int size = sizes[kind];
            Check.due("the last cell", bits.cell(0, size - 1), 0);
            for (int i : new int[] {-1, size, Integer.MIN_VALUE, Integer.MAX_VALUE}) {
                Check.dueThrow("cell " + i, IndexOutOfBoundsException.class, () -> bits.cell(0, i));
                Check.dueThrow("none", IllegalStateException.class, () -> bits.cell(1, i));
                Check.dueThrow("no number", IllegalStateException.class, () -> bits.cell(-1, i));
                Check.dueThrow("no number", IllegalStateException.class, () -> bits.cell(4, i));
            }
        }
    }
}
