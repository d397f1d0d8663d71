import java.util.Random;

/** Runs of calls drawn from fixed seeds, each answer and each state compared with the model's. */
public final class ModelTest {
    private static final int RUNS = 400;
    // An object answers 512 calls. A draw makes four of them at most; the rest is for the look at the end.
    private static final int DRAWN_CALLS = 360;
    private static final int MOST_CALLS = 512;

    private final Random random;
    private final FewBits bits = new FewBits();
    private final Model model = new Model();
    private final int run;
    private final int items;
    private int calls = 0;

    private ModelTest(int run) {
        this.run = run;
        random = new Random(run);
        items = 1 << (2 + random.nextInt(10));
    }

    public static void main(String[] args) {
        for (int run = 0; run < RUNS; run++) {
            ModelTest test = new ModelTest(run);
            while (test.calls < DRAWN_CALLS) {
                test.call();
            }
            test.compareCounts();
            test.compareCells();
        }
        Check.done();
    }

    private int filter() {
        return random.nextInt(40) == 0 ? random.nextInt(8) - 2 : random.nextInt(random.nextInt(4) + 1);
    }

    private long item() {
        return random.nextInt(30) == 0 ? random.nextLong() : random.nextInt(items);
    }

    private int many() {
        int draw = random.nextInt(30);
        return draw == 0 ? -1 : draw == 1 ? 401 : draw == 2 ? 400 : random.nextInt(30);
    }

    private void compare(String what, Check.Call got, Check.Call want) {
        calls++;
        Check.dueText("run " + run + ": " + what, Check.outcome(got), Check.outcome(want));
    }

    private void call() {
        int f = filter();
        int g = filter();
        long x = item();
        long y = item();
        int n = many();
        switch (random.nextInt(24)) {
            case 0: make(f); break;
            case 1: case 2:
                compare("addAll(" + f + ", " + x + ", " + y + ", " + n + ")",
                    () -> bits.addAll(f, x, y, n), () -> model.addAll(f, x, y, n));
                break;
            case 3:
                compare("hasAll(" + f + ", " + x + ", " + y + ", " + n + ")",
                    () -> bits.hasAll(f, x, y, n), () -> model.hasAll(f, x, y, n));
                break;
            case 4:
                compare("merge(" + f + ", " + g + ")", () -> bits.merge(f, g), () -> model.merge(f, g));
                break;
            case 5:
                if (random.nextInt(6) == 0) {
                    compare("clear(" + f + ")", () -> bits.clear(f), () -> model.clear(f));
                }
                break;
            case 6: grow(f); break;
            case 7: case 8: case 9: case 10: case 11: case 12:
                compare("add(" + f + ", " + x + ")", () -> bits.add(f, x), () -> model.add(f, x));
                break;
            case 13: case 14: case 15: case 16: case 17:
                compare("remove(" + f + ", " + x + ")", () -> bits.remove(f, x), () -> model.remove(f, x));
                break;
            default: look(f, x, y); break;
        }
    }

    private void make(int f) {
        int kind = random.nextInt(50) == 0 ? random.nextInt(8) - 2 : 1 + random.nextInt(3);
        int a = random.nextInt(random.nextInt(12) + 1);
        int b = random.nextInt(random.nextInt(23) + 1);
        compare("make(" + f + ", " + kind + ", " + a + ", " + b + ")", () -> {
            bits.make(f, kind, a, b);
            return 0;
        }, () -> {
            model.make(f, kind, a, b);
            return 0;
        });
    }

    private void grow(int f) {
        compare("grow(" + f + ")", () -> {
            bits.grow(f);
            return 0;
        }, () -> {
            model.grow(f);
            return 0;
        });
    }

    private void look(int f, long x, long y) {
        int what = random.nextInt(8) - 1;
        int i = random.nextInt(random.nextInt(40) == 0 ? 1100 : 40) - 1;
        compare("has(" + f + ", " + x + ")", () -> bits.has(f, x) ? 1 : 0, () -> model.has(f, x) ? 1 : 0);
        compare("same(" + f + ", " + x + ", " + y + ")",
            () -> bits.same(f, x, y) ? 1 : 0, () -> model.same(f, x, y) ? 1 : 0);
        compare("count(" + f + ", " + what + ")", () -> bits.count(f, what), () -> model.count(f, what));
        compare("cell(" + f + ", " + i + ")", () -> bits.cell(f, i), () -> model.cell(f, i));
    }

    private void compareCounts() {
        for (int f = 0; f < 4; f++) {
            for (int what = 0; what < 6; what++) {
                int filter = f;
                int which = what;
                compare("at the end count(" + f + ", " + what + ")",
                    () -> bits.count(filter, which), () -> model.count(filter, which));
            }
        }
    }

    /** All cells of a small filter, those from a drawn one on of a large one. */
    private void compareCells() {
        for (int f = 0; f < 4; f++) {
            int looks = (MOST_CALLS - calls) / (4 - f);
            int size = model.cells(f);
            int from = random.nextInt(Math.max(0, size + 1 - looks) + 1);
            // The one behind the last is looked at, too: it must not be there.
            for (int i = from; i <= size && i < from + looks; i++) {
                int filter = f;
                int at = i;
                compare("at the end cell(" + f + ", " + i + ")",
                    () -> bits.cell(filter, at), () -> model.cell(filter, at));
            }
        }
    }
}
