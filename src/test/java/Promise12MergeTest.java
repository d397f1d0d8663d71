/** Promise 12: merge. */
public final class Promise12MergeTest {
    private static final String END = "throws.IndexOutOfBoundsException";

    public static void main(String[] args) {
        allPairsCome();
        intoItself();
        noRoom();
        notBothRunsOfOneSize();
        whichComesFirst();
        Check.done();
    }

    private static FewBits twoOfRuns() {
        FewBits bits = new FewBits();
        bits.make(0, 3, 2, 4);
        bits.make(1, 3, 2, 4);
        bits.add(0, Items.pair(2, 4, 0, 1, 0));
        bits.add(0, Items.pair(2, 4, 2, 5, 0));
        bits.add(1, Items.pair(2, 4, 2, 5, 0));
        bits.add(1, Items.pair(2, 4, 2, 4, 0));
        return bits;
    }

    private static void allPairsCome() {
        FewBits bits = twoOfRuns();
        Check.due("merge", bits.merge(0, 1), 4);
        Check.dueText("2: 4, 5 and 5 from slot 2 on, 0: 1 behind", Check.cells(bits, 0),
            (5 * 8 + 1 + 2 + 4) + " " + (8 + 4) + " " + (4 * 8 + 1) + " " + (5 * 8 + 2 + 4) + " " + END);
        Check.due("how many", bits.count(0, 3), 4);
        Check.due("g keeps its own", bits.count(1, 3), 2);
        Check.dueText("g keeps its own", Check.cells(bits, 1), "0 0 33 46 " + END);
        bits.make(2, 3, 2, 4);
        Check.due("nothing comes", bits.merge(0, 2), 4);
        Check.due("all come to nothing", bits.merge(2, 0), 4);
        Check.dueText("as f was", Check.cells(bits, 2), Check.cells(bits, 0));
        bits.clear(0);
        bits.clear(2);
        Check.due("nothing to nothing", bits.merge(0, 2), 0);
    }

    private static void intoItself() {
        FewBits bits = twoOfRuns();
        Check.due("merge", bits.merge(1, 1), 4);
        Check.dueText("each twice", Check.cells(bits, 1),
            (5 * 8 + 2 + 4) + " " + (5 * 8 + 2 + 4) + " " + (4 * 8 + 1) + " " + (4 * 8 + 2 + 4) + " " + END);
        Check.dueThrow("eight have no room", UnsupportedOperationException.class, () -> bits.merge(1, 1));
        Check.due("how many", bits.count(1, 3), 4);
    }

    private static void noRoom() {
        FewBits bits = twoOfRuns();
        bits.add(0, Items.pair(2, 4, 1, 1, 0));
        String before = Check.cells(bits, 0);
        Check.dueThrow("five have no room", UnsupportedOperationException.class, () -> bits.merge(0, 1));
        Check.dueThrow("five have no room", UnsupportedOperationException.class, () -> bits.merge(1, 0));
        Check.dueText("nothing is changed", Check.cells(bits, 0), before);
        Check.due("how many", bits.count(0, 3), 3);
        Check.due("how many", bits.count(1, 3), 2);
    }

    private static void notBothRunsOfOneSize() {
        FewBits bits = twoOfRuns();
        bits.make(2, 3, 2, 5);
        bits.make(3, 3, 3, 4);
        Check.dueThrow("another b", IllegalArgumentException.class, () -> bits.merge(0, 2));
        Check.dueThrow("another a", IllegalArgumentException.class, () -> bits.merge(0, 3));
        bits.make(2, 1, 3, 4);
        bits.make(3, 2, 2, 4);
        for (int g = 2; g <= 3; g++) {
            int other = g;
            Check.dueThrow("g is none of runs", IllegalArgumentException.class, () -> bits.merge(0, other));
            Check.dueThrow("f is none of runs", IllegalArgumentException.class, () -> bits.merge(other, 0));
            Check.dueThrow("both are none of runs", IllegalArgumentException.class, () -> bits.merge(other, other));
        }
        Check.due("nothing is changed", bits.count(0, 3), 2);
    }

    private static void whichComesFirst() {
        FewBits bits = new FewBits();
        bits.make(0, 1, 3, 1);
        Check.dueThrow("f is no number, g none", IndexOutOfBoundsException.class, () -> bits.merge(4, 1));
        Check.dueThrow("f is none, g no number", IndexOutOfBoundsException.class, () -> bits.merge(1, -1));
        Check.dueThrow("f is none of runs, g no number", IndexOutOfBoundsException.class, () -> bits.merge(0, 4));
        Check.dueThrow("f is none of runs, g none", IllegalStateException.class, () -> bits.merge(0, 1));
        Check.dueThrow("f is none, g none of runs", IllegalStateException.class, () -> bits.merge(1, 0));
        bits.make(1, 3, 2, 4);
        bits.make(2, 3, 3, 4);
        bits.addAll(1, 0, 1, 4);
        bits.addAll(2, 0, 1, 8);
        Check.dueThrow("full, and of another a", IllegalArgumentException.class, () -> bits.merge(1, 2));
    }
}
