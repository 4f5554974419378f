import java.util.ArrayList;
import java.util.List;
import java.util.NoSuchElementException;

/**
 * Long runs of calls, each answered by HiveYard and by a model that holds its rows in Java's own
 * arrays of each type, so that what Java itself says of a copy is a second opinion on a MOVE.
 */
public final class ModelTest {
    private static final int RUNS = 3000;
    private static final int CALLS = 512;
    private static final int METHODS = 18;

    private static class Comb {
        final int number;
        final int kind;
        int weight;

        Comb(int number, int kind) {
            this.number = number;
            this.kind = kind;
        }
    }

    private static class Honey extends Comb {
        Honey(int number, int kind) {
            super(number, kind);
        }
    }

    private static final class Brood extends Comb {
        Brood(int number, int kind) {
            super(number, kind);
        }
    }

    private static final class Sealed extends Honey {
        Sealed(int number, int kind) {
            super(number, kind);
        }
    }

    /** The document once more, written for the test alone. */
    private static final class Model {
        private final Object[] boxes = new Object[12];
        private final List<Comb> combs = new ArrayList<>();
        private final int[] counts = new int[9];
        private int moved = 0;

        private static final String LID = "lid";

        private Object box(int box) {
            if (box < 0 || box > 11) {
                throw new IndexOutOfBoundsException();
            }
            return boxes[box];
        }

        private static boolean isRow(Object held) {
            return held != null && held.getClass().isArray();
        }

        private static int length(Object row) {
            return java.lang.reflect.Array.getLength(row);
        }

        private static int told(Object held) {
            if (held == null) {
                return -1;
            }
            Class<?>[] types = {int[].class, long[].class, short[].class, byte[].class,
                Comb[].class, Honey[].class, Brood[].class, Sealed[].class, String.class};
            return List.of(types).indexOf(held.getClass());
        }

        private static Object newRow(int sort, int n) {
            Class<?>[] types = {int.class, long.class, short.class, byte.class,
                Comb.class, Honey.class, Brood.class, Sealed.class};
            return java.lang.reflect.Array.newInstance(types[sort], n);
        }

        private static Comb newComb(int number, int kind) {
            switch (kind) {
                case 0: return new Comb(number, kind);
                case 1: return new Honey(number, kind);
                case 2: return new Brood(number, kind);
                default: return new Sealed(number, kind);
            }
        }

        private static void place(Object row, int place) {
            if (place < 0 || place >= length(row)) {
                throw new NoSuchElementException();
            }
        }

        private static void state(boolean fine) {
            if (!fine) {
                throw new IllegalStateException();
            }
        }

        private static void argument(boolean fine) {
            if (!fine) {
                throw new IllegalArgumentException();
            }
        }

        long row(int box, int sort, int n) {
            Object held = box(box);
            argument(sort >= 0 && sort <= 7 && n >= 0 && n <= 24);
            if (counts[0] == 300) {
                throw new UnsupportedOperationException();
            }
            counts[0]++;
            boxes[box] = newRow(sort, n);
            return held == null ? 1 : 0;
        }

        long lid(int box) {
            Object held = box(box);
            boxes[box] = LID;
            return held instanceof String ? 0 : 1;
        }

        long clear(int box) {
            Object held = box(box);
            boxes[box] = null;
            return held == null ? 0 : 1;
        }

        long share(int box, int from) {
            box(box);
            boxes[box] = box(from);
            return told(boxes[from]);
        }

        long put(int box, int place, long v) {
            Object held = box(box);
            state(isRow(held) && !(held instanceof Object[]));
            place(held, place);
            long before = java.lang.reflect.Array.getLong(held, place);
            if (held instanceof int[] ints) {
                ints[place] = (int) v;
            } else if (held instanceof long[] longs) {
                longs[place] = v;
            } else if (held instanceof short[] shorts) {
                shorts[place] = (short) v;
            } else if (held instanceof byte[] bytes) {
                bytes[place] = (byte) v;
            }
            return before;
        }

        long lay(int box, int place, int kind) {
            Object held = box(box);
            argument(kind >= 0 && kind <= 3);
            state(held instanceof Comb[]);
            place(held, place);
            if (combs.size() == 60) {
                throw new UnsupportedOperationException();
            }
            Comb comb = newComb(combs.size(), kind);
            if (!held.getClass().getComponentType().isInstance(comb)) {
                return -1;
            }
            combs.add(comb);
            counts[1]++;
            ((Comb[]) held)[place] = comb;
            return comb.number;
        }

        long lift(int box, int place) {
            Object held = box(box);
            state(held instanceof Comb[]);
            place(held, place);
            Comb comb = ((Comb[]) held)[place];
            ((Comb[]) held)[place] = null;
            return comb == null ? -1 : comb.number;
        }

        long move(int from, int i, int to, int j, int n) {
            Object source = box(from);
            Object target = box(to);
            int end = ended(source, i, target, j, n);
            counts[2]++;
            if (end > 0) {
                counts[2 + end]++;
            }
            counts[8] += moved;
            return end;
        }

        private int ended(Object source, int i, Object target, int j, int n) {
            moved = 0;
            if (source == null || target == null) {
                return 1;
            }
            if (!isRow(source) || !isRow(target)) {
                return 2;
            }
            boolean combs = source instanceof Comb[] && target instanceof Comb[];
            int fit = combs ? fitting((Comb[]) source, i, target, n) : n;
            try {
                System.arraycopy(source, i, target, j, n);
            } catch (ArrayStoreException e) {
                moved = combs ? fit : 0;
                return combs ? 5 : 3;
            } catch (IndexOutOfBoundsException e) {
                return 4;
            }
            moved = n;
            return 0;
        }

        private static int fitting(Comb[] source, int i, Object target, int n) {
            Class<?> taken = target.getClass().getComponentType();
            int fit = 0;
            while (i >= 0 && fit < n && i < source.length - fit
                    && (source[i + fit] == null || taken.isInstance(source[i + fit]))) {
                fit++;
            }
            return fit;
        }

        long pour(int from, int to) {
            Object source = box(from);
            Object target = box(to);
            int n = isRow(source) && isRow(target) ? Math.min(length(source), length(target)) : 0;
            return move(from, 0, to, 0, n);
        }

        long at(int box, int place) {
            Object held = box(box);
            state(isRow(held));
            place(held, place);
            if (held instanceof Comb[] row) {
                return row[place] == null ? -1 : row[place].number;
            }
            return java.lang.reflect.Array.getLong(held, place);
        }

        long places(int box) {
            Object held = box(box);
            state(isRow(held));
            return length(held);
        }

        long same(int box, int other) {
            Object held = box(box);
            Object another = box(other);
            return isRow(held) && held == another ? 1 : 0;
        }

        long all(int box) {
            long n = places(box);
            long sum = 0;
            for (int place = 0; place < n; place++) {
                long stands = at(box, place);
                if (!(boxes[box] instanceof Comb[])) {
                    sum += stands;
                } else if (stands >= 0) {
                    sum += combs.get((int) stands).weight;
                }
            }
            return sum;
        }

        private Comb comb(int number) {
            if (number < 0 || number >= combs.size()) {
                throw new NoSuchElementException();
            }
            return combs.get(number);
        }

        long feed(int comb, int w) {
            comb(comb).weight += w;
            return comb(comb).weight;
        }

        long kind(int comb) {
            return comb(comb).kind;
        }

        long count(int what) {
            return what < 0 || what > 8 ? -1 : counts[what];
        }
    }

    /** Numbers that look thrown but are the same in every run of the test. */
    private static final class Dice {
        private long seed;

        Dice(long seed) {
            this.seed = seed;
        }

        int below(int bound) {
            seed += 0x9E3779B97F4A7C15L;
            long z = (seed ^ (seed >>> 30)) * 0xBF58476D1CE4E5B9L;
            z = (z ^ (z >>> 27)) * 0x94D049BB133111EBL;
            return (int) (((z ^ (z >>> 31)) >>> 33) % bound);
        }

        /** Mostly 0 to most, now and then beside it or far away. */
        int near(int most) {
            switch (below(24)) {
                case 0: return -1;
                case 1: return most + 1;
                case 2: return below(2) == 0 ? Integer.MAX_VALUE : Integer.MIN_VALUE;
                default: return below(most + 1);
            }
        }

        long wide() {
            long v = ((long) below(Integer.MAX_VALUE) << 33) ^ ((long) below(Integer.MAX_VALUE) << 8) ^ below(256);
            return below(2) == 0 ? v : v >> (8 * (1 + below(7)));
        }
    }

    private final HiveYard x = new HiveYard();
    private final Model m = new Model();
    private final Dice dice;
    private final int favourite;
    private final int favour;
    private final int mostBox;
    private final int mostPlace;
    private final boolean combsAlone;
    private String where = "";
    private int calls = 0;

    private ModelTest(int run) {
        dice = new Dice(run);
        favourite = dice.below(METHODS);
        favour = dice.below(10);
        mostBox = 1 + dice.below(11);
        mostPlace = 1 + dice.below(24);
        combsAlone = dice.below(2) == 0;
    }

    public static void main(String[] args) {
        int[] met = new int[9];
        for (int run = 0; run < RUNS && !Check.anyWrong(); run++) {
            ModelTest test = new ModelTest(run);
            if (run % 4 != 0) {
                test.fill("run " + run + ", filled");
            }
            // The last call but one may be a move, behind which one more call is made.
            while (test.calls < CALLS - 1 && !Check.anyWrong()) {
                test.where = "run " + run + ", call " + test.calls;
                test.oneCall();
            }
            for (int what = 0; what < met.length; what++) {
                met[what] += test.m.counts[what];
            }
        }
        for (int what = 0; what < met.length; what++) {
            Check.due("enough was met of what count(" + what + ") counts", met[what] > 1000, true);
        }
        Check.end();
    }

    /** Most runs begin with rows in every box and with some combs, or moves would seldom come far. */
    private void fill(String begin) {
        where = begin;
        for (int box = 0; box <= mostBox; box++) {
            row(box);
            for (int k = 0; k < 4; k++) {
                lay(box, dice.below(mostPlace));
            }
        }
    }

    private void oneCall() {
        int method = dice.below(10) < favour ? favourite : dice.below(METHODS);
        int box = dice.near(mostBox);
        int other = dice.near(mostBox);
        int place = dice.near(mostPlace - 1);
        // What ends a row is seldom called, or none would stand long enough to be filled and moved.
        if (method >= 1 && method <= 3 && dice.below(8) != 0) {
            method = 7;
        }
        switch (method) {
            case 0: row(box); break;
            case 1: lid(box); break;
            case 2: clear(box); break;
            case 3: both("share " + box + " " + other, () -> x.share(box, other), () -> m.share(box, other)); break;
            case 4: put(box, place); break;
            case 5: lay(box, place); break;
            case 6: both("lift " + box + " " + place, () -> x.lift(box, place), () -> m.lift(box, place)); break;
            case 7: move(box, place, other); break;
            case 8: both("pour " + box + " " + other, () -> x.pour(box, other), () -> m.pour(box, other)); break;
            default: look(method, box, other, place); break;
        }
    }

    private void look(int method, int box, int other, int place) {
        int comb = dice.near(59);
        int what = dice.near(8);
        switch (method) {
            case 9: both("moved", () -> x.moved(), () -> m.moved); break;
            case 10: both("at " + box + " " + place, () -> x.at(box, place), () -> m.at(box, place)); break;
            case 11: both("holds " + box, () -> x.holds(box), () -> Model.told(m.box(box))); break;
            case 12: both("places " + box, () -> x.places(box), () -> m.places(box)); break;
            case 13: same(box, other); break;
            case 14: both("all " + box, () -> x.all(box), () -> m.all(box)); break;
            case 15: feed(); break;
            case 16: both("kind " + comb, () -> x.kind(comb), () -> m.kind(comb)); break;
            default: both("count " + what, () -> x.count(what), () -> m.count(what)); break;
        }
    }

    private void row(int box) {
        int sort = combsAlone ? 4 + dice.near(3) : dice.near(7);
        int n = dice.below(2) == 0 ? mostPlace : dice.near(mostPlace);
        both("row " + box + " " + sort + " " + n, () -> Check.bit(x.row(box, sort, n)), () -> m.row(box, sort, n));
    }

    private void lid(int box) {
        both("lid " + box, () -> Check.bit(x.lid(box)), () -> m.lid(box));
    }

    private void clear(int box) {
        both("clear " + box, () -> Check.bit(x.clear(box)), () -> m.clear(box));
    }

    private void put(int box, int place) {
        long v = dice.wide();
        both("put " + box + " " + place + " " + v, () -> x.put(box, place, v), () -> m.put(box, place, v));
    }

    private void lay(int box, int place) {
        int kind = dice.near(3);
        both("lay " + box + " " + place + " " + kind, () -> x.lay(box, place, kind), () -> m.lay(box, place, kind));
    }

    private void move(int from, int i, int to) {
        int j = dice.near(mostPlace - 1);
        // Half of them short, or most would end outside.
        int n = dice.near(dice.below(2) == 0 ? mostPlace : 1 + mostPlace / 4);
        String what = "move " + from + " " + i + " " + to + " " + j + " " + n;
        both(what, () -> x.move(from, i, to, j, n), () -> m.move(from, i, to, j, n));
        both(what + ", then moved", () -> x.moved(), () -> m.moved);
    }

    private void same(int box, int other) {
        both("same " + box + " " + other, () -> Check.bit(x.same(box, other)), () -> m.same(box, other));
    }

    private void feed() {
        int comb = dice.near(20);
        int w = (int) dice.wide();
        both("feed " + comb + " " + w, () -> x.feed(comb, w), () -> m.feed(comb, w));
    }

    private void both(String what, Check.Call call, Check.Call due) {
        calls++;
        Check.text(where + ", " + what, Check.outcome(call), Check.outcome(due));
    }
}
