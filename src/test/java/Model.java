import java.math.BigInteger;
import java.util.ArrayDeque;
import java.util.ArrayList;
import java.util.Collections;
import java.util.List;
import java.util.NoSuchElementException;

/**
 * The document once more, written word by word and in another way than the program: every change is
 * tried on a copy, runs are a bag of pairs, and their circle is laid out slot by slot with a queue.
 */
final class Model {
    private static final BigInteger TWO64 = BigInteger.ONE.shiftLeft(64);

    /** One filter; a pair is a long with its quotient above bit 32 and its remainder below. */
    private static final class One {
        int kind;
        int a;
        int b;
        int added;
        int pushed;
        List<Integer> cells = new ArrayList<>();
        List<Long> pairs = new ArrayList<>();
    }

    private final One[] filters = new One[4];

    static long mix(long x, int s) {
        BigInteger z = wrap(big(x).add(BigInteger.valueOf(s).add(BigInteger.ONE).multiply(big(0x9E3779B97F4A7C15L))));
        z = wrap(z.xor(z.shiftRight(30)).multiply(big(0xBF58476D1CE4E5B9L)));
        z = wrap(z.xor(z.shiftRight(27)).multiply(big(0x94D049BB133111EBL)));
        return z.xor(z.shiftRight(31)).longValue();
    }

    private static BigInteger big(long x) {
        return wrap(BigInteger.valueOf(x));
    }

    private static BigInteger wrap(BigInteger z) {
        return z.mod(TWO64);
    }

    private One the(int f) {
        if (f < 0 || f > 3) {
            throw new IndexOutOfBoundsException();
        }
        if (filters[f] == null) {
            throw new IllegalStateException();
        }
        return filters[f];
    }

    void make(int f, int kind, int a, int b) {
        if (f < 0 || f > 3) {
            throw new IndexOutOfBoundsException();
        }
        boolean good = kind == 1 && a >= 3 && a <= 10 && b >= 1 && b <= 6
            || kind == 2 && a >= 1 && a <= 8 && b >= 4 && b <= 16
            || kind == 3 && a >= 2 && a <= 8 && b >= 4 && b <= 20;
        if (!good) {
            throw new IllegalArgumentException();
        }
        filters[f] = empty(kind, a, b);
    }

    private static One empty(int kind, int a, int b) {
        One one = new One();
        one.kind = kind;
        one.a = a;
        one.b = b;
        int cells = kind == 1 ? 1 << a : kind == 2 ? 4 << a : 0;
        for (int i = 0; i < cells; i++) {
            one.cells.add(0);
        }
        return one;
    }

    int add(int f, long x) {
        One one = the(f);
        if (!tryAdd(one, x)) {
            throw new UnsupportedOperationException();
        }
        return one.added;
    }

    int addAll(int f, long x, long step, int n) {
        One one = the(f);
        if (n < 0 || n > 400) {
            throw new IllegalArgumentException();
        }
        int done = 0;
        while (done < n && tryAdd(one, x + done * step)) {
            done++;
        }
        return done;
    }

    private static boolean tryAdd(One one, long x) {
        boolean good = one.kind == 1 ? count(one, x, 1) : one.kind == 2 ? place(one, x) : file(one, x);
        if (good) {
            one.added++;
        }
        return good;
    }

    private static boolean count(One one, long x, int by) {
        List<Integer> cells = new ArrayList<>(one.cells);
        for (int place : places(one, x)) {
            cells.set(place, cells.get(place) + by);
        }
        for (int cell : cells) {
            if (cell < 0 || cell > 15) {
                return false;
            }
        }
        one.cells = cells;
        return true;
    }

    private static List<Integer> places(One one, long x) {
        List<Integer> places = new ArrayList<>();
        for (int s = 0; s < one.b; s++) {
            places.add((int) Math.floorMod(mix(x, s), 1L << one.a));
        }
        return places;
    }

    private static int print(One one, long x) {
        int print = big(mix(x, 0)).shiftRight(64 - one.b).intValue();
        return print == 0 ? 1 : print;
    }

    private static int first(One one, long x) {
        return (int) Math.floorMod(mix(x, 1), 1L << one.a);
    }

    private static int other(One one, int bucket, int print) {
        return bucket ^ (int) Math.floorMod(mix(print, 2), 1L << one.a);
    }

    private static int find(List<Integer> cells, int bucket, int value) {
        int at = cells.subList(4 * bucket, 4 * bucket + 4).indexOf(value);
        return at < 0 ? -1 : 4 * bucket + at;
    }

    private static boolean place(One one, long x) {
        List<Integer> cells = new ArrayList<>(one.cells);
        int print = print(one, x);
        int first = first(one, x);
        int second = other(one, first, print);
        int free = find(cells, first, 0);
        if (free < 0) {
            free = find(cells, second, 0);
        }
        int bucket = second;
        for (int k = 0; k <= 63 && free < 0; k++) {
            print = cells.set(4 * bucket + k % 4, print);
            one.pushed++;
            bucket = other(one, bucket, print);
            free = find(cells, bucket, 0);
        }
        if (free < 0) {
            return false;
        }
        cells.set(free, print);
        one.cells = cells;
        return true;
    }

    private static long pair(One one, long x) {
        BigInteger mixed = big(mix(x, 0));
        long quotient = mixed.shiftRight(64 - one.a).longValue();
        long remainder = mixed.shiftRight(64 - one.a - one.b).mod(BigInteger.ONE.shiftLeft(one.b)).longValue();
        return quotient << 32 | remainder;
    }

    private static boolean file(One one, long x) {
        return one.pairs.size() < 1 << one.a && one.pairs.add(pair(one, x));
    }

    int remove(int f, long x) {
        One one = the(f);
        boolean good;
        if (one.kind == 1) {
            good = count(one, x, -1);
        } else if (one.kind == 2) {
            int at = where(one, x);
            good = at >= 0;
            if (good) {
                one.cells.set(at, 0);
            }
        } else {
            good = one.pairs.remove(Long.valueOf(pair(one, x)));
        }
        if (!good) {
            throw new NoSuchElementException();
        }
        return --one.added;
    }

    private static int where(One one, long x) {
        int print = print(one, x);
        int first = first(one, x);
        int at = find(one.cells, first, print);
        return at >= 0 ? at : find(one.cells, other(one, first, print), print);
    }

    boolean has(int f, long x) {
        return there(the(f), x);
    }

    private static boolean there(One one, long x) {
        if (one.kind == 1) {
            return places(one, x).stream().allMatch(place -> one.cells.get(place) > 0);
        }
        return one.kind == 2 ? where(one, x) >= 0 : one.pairs.contains(pair(one, x));
    }

    int hasAll(int f, long x, long step, int n) {
        One one = the(f);
        if (n < 0 || n > 400) {
            throw new IllegalArgumentException();
        }
        int there = 0;
        for (int i = 0; i < n; i++) {
            there += there(one, x + i * step) ? 1 : 0;
        }
        return there;
    }

    boolean same(int f, long x, long y) {
        One one = the(f);
        if (one.kind == 1) {
            return sorted(places(one, x)).equals(sorted(places(one, y)));
        }
        if (one.kind == 2) {
            return print(one, x) == print(one, y) && buckets(one, x).equals(buckets(one, y));
        }
        return pair(one, x) == pair(one, y);
    }

    private static List<Integer> buckets(One one, long x) {
        int first = first(one, x);
        return sorted(List.of(first, other(one, first, print(one, x))));
    }

    private static List<Integer> sorted(List<Integer> list) {
        List<Integer> copy = new ArrayList<>(list);
        Collections.sort(copy);
        return copy;
    }

    int count(int f, int what) {
        One one = the(f);
        switch (what) {
            case 0: return one.kind;
            case 1: return one.a;
            case 2: return one.b;
            case 3: return one.added;
            case 4: return one.kind == 3 ? one.pairs.size() : (int) one.cells.stream().filter(c -> c > 0).count();
            case 5: return one.kind == 1 ? Collections.max(one.cells) : one.kind == 2 ? one.pushed : longest(one);
            default: throw new IllegalArgumentException();
        }
    }

    private static int longest(One one) {
        Long[] slots = layOut(one);
        int longest = 0;
        for (int from = 0; from < slots.length; from++) {
            int length = 0;
            while (length < slots.length && slots[(from + length) % slots.length] != null) {
                length++;
            }
            longest = Math.max(longest, length);
        }
        return longest;
    }

    int cell(int f, int i) {
        if (f < 0 || f > 3 || filters[f] == null) {
            throw new IllegalStateException();
        }
        One one = filters[f];
        if (i < 0 || i >= cells(f)) {
            throw new IndexOutOfBoundsException();
        }
        return one.kind == 3 ? slot(one, i) : one.cells.get(i);
    }

    /** How many cells a filter has; none has none. */
    int cells(int f) {
        One one = filters[f];
        return one == null ? 0 : one.kind == 3 ? 1 << one.a : one.cells.size();
    }

    private static int slot(One one, int i) {
        Long[] slots = layOut(one);
        boolean claimed = one.pairs.stream().anyMatch(pair -> pair >> 32 == i);
        if (slots[i] == null) {
            return claimed ? 1 : 0;
        }
        long quotient = slots[i] >> 32;
        Long before = slots[(i + slots.length - 1) % slots.length];
        // The first of a run lies in its own slot or right behind another run.
        boolean follows = before != null && before >> 32 == quotient && i != quotient;
        return (int) (slots[i] & 0xFFFFFFFFL) * 8 + (claimed ? 1 : 0) + (follows ? 2 : 0) + (quotient != i ? 4 : 0);
    }

    /** From a slot at which nothing from before lies over, what comes to each slot waits in line. */
    private static Long[] layOut(One one) {
        int size = 1 << one.a;
        List<Long> pairs = new ArrayList<>(one.pairs);
        Collections.sort(pairs);
        for (int start = 0; start < size; start++) {
            Long[] slots = new Long[size];
            ArrayDeque<Long> line = new ArrayDeque<>();
            for (int i = 0; i < size; i++) {
                int slot = (start + i) % size;
                pairs.stream().filter(pair -> pair >> 32 == slot).forEach(line::add);
                slots[slot] = line.poll();
            }
            if (line.isEmpty()) {
                return slots;
            }
        }
        throw new AssertionError("no slot to start from");
    }

    int merge(int f, int g) {
        if (f < 0 || f > 3 || g < 0 || g > 3) {
            throw new IndexOutOfBoundsException();
        }
        One to = the(f);
        One from = the(g);
        if (to.kind != 3 || from.kind != 3 || to.a != from.a || to.b != from.b) {
            throw new IllegalArgumentException();
        }
        if (to.pairs.size() + from.pairs.size() > 1 << to.a) {
            throw new UnsupportedOperationException();
        }
        to.pairs.addAll(new ArrayList<>(from.pairs));
        to.added = to.pairs.size();
        return to.added;
    }

    void grow(int f) {
        One one = the(f);
        if (one.kind != 3 || one.a == 8 || one.b == 4) {
            throw new IllegalArgumentException();
        }
        one.a++;
        one.b--;
        one.pairs.replaceAll(pair -> {
            long quotient = pair >> 32;
            long remainder = pair & 0xFFFFFFFFL;
            long high = remainder >> one.b;
            return (quotient * 2 + high) << 32 | remainder - (high << one.b);
        });
    }

    int clear(int f) {
        One one = the(f);
        filters[f] = empty(one.kind, one.a, one.b);
        return one.added;
    }
}
