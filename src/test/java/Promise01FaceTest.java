import java.lang.reflect.Constructor;
import java.lang.reflect.Field;
import java.lang.reflect.Method;
import java.lang.reflect.Modifier;
import java.util.Set;
import java.util.TreeSet;

/** The public face, and promise 1: a new object has no filters. */
public final class Promise01FaceTest {
    public static void main(String[] args) {
        theFaceIsTheDocuments();
        aNewObjectHasNoFilters();
        noFilterOfThatNumber();
        objectsShareNothing();
        Check.done();
    }

    private static void theFaceIsTheDocuments() {
        Check.due("NONE", FewBits.NONE, -1);
        Check.due("public final", FewBits.class.getModifiers() == (Modifier.PUBLIC | Modifier.FINAL), true);
        Set<String> seen = new TreeSet<>();
        for (Constructor<?> constructor : FewBits.class.getDeclaredConstructors()) {
            seen.add(constructor.toString());
        }
        for (Method method : FewBits.class.getDeclaredMethods()) {
            if (!Modifier.isPrivate(method.getModifiers())) {
                seen.add(method.toString());
            }
        }
        for (Field field : FewBits.class.getDeclaredFields()) {
            if (!Modifier.isPrivate(field.getModifiers())) {
                seen.add(field.toString());
            }
        }
        Check.dueText("the face", String.join("\n", seen), String.join("\n", documented()));
        for (Method method : FewBits.class.getDeclaredMethods()) {
            if (Modifier.isPrivate(method.getModifiers())) {
                Check.due("a private method bears the public name " + method.getName(),
                    seen.stream().anyMatch(line -> line.contains("FewBits." + method.getName() + "(")), false);
            }
        }
    }

    private static Set<String> documented() {
        String index = "java.lang.IndexOutOfBoundsException";
        String state = "java.lang.IllegalStateException";
        String argument = "java.lang.IllegalArgumentException";
        String full = "java.lang.UnsupportedOperationException";
        Set<String> face = new TreeSet<>();
        face.add("public static final int FewBits.NONE");
        face.add("public FewBits()");
        face.add("public long FewBits.mix(long,int)");
        face.add("public void FewBits.make(int,int,int,int) throws " + index + "," + argument);
        face.add("public int FewBits.add(int,long) throws " + index + "," + state + "," + full);
        face.add("public int FewBits.addAll(int,long,long,int) throws " + index + "," + state + "," + argument);
        face.add("public int FewBits.remove(int,long) throws " + index + "," + state
            + ",java.util.NoSuchElementException");
        face.add("public boolean FewBits.has(int,long) throws " + index + "," + state);
        face.add("public int FewBits.hasAll(int,long,long,int) throws " + index + "," + state + "," + argument);
        face.add("public boolean FewBits.same(int,long,long) throws " + index + "," + state);
        face.add("public int FewBits.count(int,int) throws " + index + "," + state + "," + argument);
        face.add("public int FewBits.cell(int,int) throws " + state + "," + index);
        face.add("public int FewBits.merge(int,int) throws " + index + "," + state + "," + argument + "," + full);
        face.add("public void FewBits.grow(int) throws " + index + "," + state + "," + argument);
        face.add("public int FewBits.clear(int) throws " + index + "," + state);
        return face;
    }

    private static void aNewObjectHasNoFilters() {
        FewBits bits = new FewBits();
        for (int f = 0; f < 4; f++) {
            dueThrowEverywhere(bits, f, IllegalStateException.class);
            int filter = f;
            Check.dueThrow("cell of none", IllegalStateException.class, () -> bits.cell(filter, -1));
        }
    }

    private static void noFilterOfThatNumber() {
        FewBits bits = new FewBits();
        for (int f : new int[] {-1, 4, Integer.MIN_VALUE, Integer.MAX_VALUE}) {
            dueThrowEverywhere(bits, f, IndexOutOfBoundsException.class);
            Check.dueThrow("cell", IllegalStateException.class, () -> bits.cell(f, 0));
        }
    }

    /** Wrong numbers behind f are there, too, to see that f is looked at first. */
    private static void dueThrowEverywhere(FewBits bits, int f, Class<? extends RuntimeException> want) {
        Check.dueThrow("add", want, () -> bits.add(f, 1));
        Check.dueThrow("addAll", want, () -> bits.addAll(f, 1, 1, 401));
        Check.dueThrow("remove", want, () -> bits.remove(f, 1));
        Check.dueThrow("has", want, () -> bits.has(f, 1));
        Check.dueThrow("hasAll", want, () -> bits.hasAll(f, 1, 1, -1));
        Check.dueThrow("same", want, () -> bits.same(f, 1, 1));
        Check.dueThrow("count", want, () -> bits.count(f, 6));
        Check.dueThrow("merge", want, () -> bits.merge(f, f));
        Check.dueThrow("grow", want, () -> bits.grow(f));
        Check.dueThrow("clear", want, () -> bits.clear(f));
    }

    private static void objectsShareNothing() {
        FewBits one = new FewBits();
        FewBits two = new FewBits();
        one.make(0, 3, 2, 4);
        one.add(0, 1);
        Check.dueThrow("the other one's filter", IllegalStateException.class, () -> two.count(0, 3));
        two.make(0, 3, 2, 4);
        Check.due("the other one's count", two.count(0, 3), 0);
    }
}
