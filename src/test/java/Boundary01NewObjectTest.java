import java.util.ArrayList;
import java.util.List;

/** The boundary cases of promise 1, "No filters", and of what the document says of objects and filters. */
public final class Boundary01NewObjectTest {
    private static final Class<IndexOutOfBoundsException> INDEX = IndexOutOfBoundsException.class;
    private static final Class<IllegalStateException> STATE = IllegalStateException.class;

    public static void main(String[] args) {
        Check.test("NONE = -1", () -> Check.due("NONE", FewBits.NONE, -1));
        for (int f = 0; f <= 3; f++) {
            int filter = f;
            Check.test("FILTERS 0 .. 3, none of them at first: " + f, () -> isNoneAtFirst(filter));
            Check.test("FILTERS 0 .. 3, each one can be made: " + f, () -> canBeMade(filter));
        }
        for (int f : new int[] {-1, 4, Integer.MIN_VALUE, Integer.MAX_VALUE}) {
            Check.test("there is no filter of that number: " + f, () -> isNoNumber(f));
        }
        Check.test("at most 512 calls: the 512th is answered", Boundary01NewObjectTest::theLastCall);
        Check.test("at most 512 calls: 511 makes", Boundary01NewObjectTest::asManyMakes);
        Check.test("at most 512 calls: 511 calls that throw", Boundary01NewObjectTest::asManyRefused);
        Check.test("at most 512 calls: 511 of the dearest", Boundary01NewObjectTest::asManyItems);
        Check.done();
    }

    /** Every call that takes a filter's number alone to be refused, but for make and cell. */
    private static List<Check.Use> calls(int f) {
        List<Check.Use> calls = new ArrayList<>();
        calls.add(bits -> bits.add(f, 1));
        calls.add(bits -> bits.addAll(f, 1, 1, 1));
        calls.add(bits -> bits.remove(f, 1));
        calls.add(bits -> bits.has(f, 1));
        calls.add(bits -> bits.hasAll(f, 1, 1, 1));
        calls.add(bits -> bits.same(f, 1, 1));
        calls.add(bits -> bits.count(f, 0));
        calls.add(bits -> bits.merge(f, f));
        calls.add(bits -> bits.grow(f));
        calls.add(bits -> bits.clear(f));
        return calls;
    }

    private static void isNoneAtFirst(int f) {
        int nth = 0;
        for (Check.Use call : calls(f)) {
            nth++;
            Check.refused("the " + nth + "th call", STATE, FewBits::new, call);
        }
        Check.refused("cell", STATE, FewBits::new, bits -> bits.cell(f, 0));
    }

    private static void canBeMade(int f) {
        FewBits bits = new FewBits();
        bits.make(f, 3, 2, 4);
        bits.add(f, 1);
        for (int other = 0; other <= 3; other++) {
            int filter = other;
            Check.dueText("how many has " + other, Check.outcome(() -> bits.count(filter, 3)),
                other == f ? "1" : "throws.IllegalStateException");
        }
    }

    private static void isNoNumber(int f) {
        int nth = 0;
        for (Check.Use call : calls(f)) {
            nth++;
            Check.refused("the " + nth + "th call", INDEX, Sample::some, call);
        }
        Check.refused("make", INDEX, Sample::some, bits -> bits.make(f, 1, 3, 1));
        Check.refused("cell", STATE, Sample::some, bits -> bits.cell(f, 0));
    }

    private static void theLastCall() {
        FewBits bits = new FewBits();
        bits.make(0, 3, 8, 20);
        for (int i = 0; i < 255; i++) {
            bits.add(0, i);
        }
        for (int i = 0; i < 255; i++) {
            bits.remove(0, i);
        }
        Check.due("the 512th call", bits.count(0, 3), 0);
    }

    private static void asManyMakes() {
        FewBits bits = new FewBits();
        for (int i = 0; i < 511; i++) {
            bits.make(i % 4, 1 + i / 4 % 3, 8, 4 + i % 3);
        }
        Check.due("the kind of the last one but three", bits.count(3, 0), 1 + 507 / 4 % 3);
    }

    private static void asManyRefused() {
        FewBits bits = new FewBits();
        for (int i = 0; i < 511; i++) {
            Check.dueThrow("call " + i, STATE, () -> bits.grow(0));
        }
        Check.dueThrow("the 512th call", STATE, () -> bits.count(3, 0));
    }

    private static void asManyItems() {
        for (int kind = 1; kind <= 3; kind++) {
            FewBits bits = Sample.one(0, kind, 8, 6);
            int had = 0;
            for (int i = 0; i < 510; i++) {
                had += bits.addAll(0, 400L * i, 1, 400);
            }
            Check.due("kind " + kind + ", how many", bits.count(0, 3), had);
        }
    }
}
