import java.util.NoSuchElementException;

/**
 * A yard of beehives: boxes hold rows of numbers or of combs, a lid, or nothing; rows are moved
 * into one another as far as they fit, and it is told what stopped a move and how far it came.
 */
public final class HiveYard {
    public static final int NONE = -1;

    private static final int BOXES = 12;
    private static final int MOST_PLACES = 24;
    private static final int MOST_ROWS = 300;
    private static final int MOST_COMBS = 60;

    private static final int INTS = 0;
    private static final int SHORTS = 2;
    private static final int BYTES = 3;
    private static final int COMBS_OF_ANY_KIND = 4;
    private static final int COMBS_OF_SEALED = 7;
    private static final int LID = 8;

    private static final int COMB = 0;
    private static final int HONEY = 1;
    private static final int SEALED = 3;

    private static final int ENDED_WHOLE = 0;
    private static final int ENDED_BY_NOTHING = 1;
    private static final int ENDED_BY_LID = 2;
    private static final int ENDED_BY_UNLIKE = 3;
    private static final int ENDED_BY_OUTSIDE = 4;
    private static final int ENDED_BY_WRONG = 5;
    private static final int WAYS_TO_END = 6;

    private static final int COUNT_ROWS = 0;
    private static final int COUNT_COMBS = 1;
    private static final int COUNT_MOVES = 2;
    private static final int COUNT_PLACES = 8;

    private final Content[] boxes;
    private final Content oneLid;
    private final int[] kindOfComb;
    private final int[] weightOfComb;
    private final int[] movesByEnd;
    private int rowsMade;
    private int combsMade;
    private int movesMade;
    private int latestMoved;
    private int placesMoved;

    public HiveYard() {
        boxes = new Content[BOXES];
        oneLid = new Content(LID, new long[0]);
        kindOfComb = new int[MOST_COMBS];
        weightOfComb = new int[MOST_COMBS];
        movesByEnd = new int[WAYS_TO_END];
    }

    public boolean row(int box, int sort, int n)
            throws IndexOutOfBoundsException, IllegalArgumentException, UnsupportedOperationException {
        Content before = contentOf(box);
        if (sort < INTS || sort > COMBS_OF_SEALED) {
            throw new IllegalArgumentException("no such sort");
        }
        if (n < 0 || n > MOST_PLACES) {
            throw new IllegalArgumentException("a row has 0 to 24 places");
        }
        if (rowsMade >= MOST_ROWS) {
            throw new UnsupportedOperationException("300 rows were made");
        }
        rowsMade++;
        boxes[box] = newRow(sort, n);
        return before == null;
    }

    public boolean lid(int box) throws IndexOutOfBoundsException {
        Content before = contentOf(box);
        boxes[box] = oneLid;
        return before != oneLid;
    }

    public boolean clear(int box) throws IndexOutOfBoundsException {
        Content before = contentOf(box);
        boxes[box] = null;
        return before != null;
    }

    public int share(int box, int from) throws IndexOutOfBoundsException {
        requireBox(box);
        Content shared = contentOf(from);
        boxes[box] = shared;
        return sortOf(shared);
    }

    public long put(int box, int place, long v)
            throws IndexOutOfBoundsException, IllegalStateException, NoSuchElementException {
        Content row = contentOf(box);
        if (!isNumbers(row)) {
            throw new IllegalStateException("the box holds no row of numbers");
        }
        requirePlace(row, place);
        long before = row.cells[place];
        row.cells[place] = lowestBits(row.sort, v);
        return before;
    }

    public int lay(int box, int place, int kind)
            throws IndexOutOfBoundsException, IllegalArgumentException, IllegalStateException,
            NoSuchElementException, UnsupportedOperationException {
        Content row = contentOf(box);
        if (kind < COMB || kind > SEALED) {
            throw new IllegalArgumentException("no such kind");
        }
        requireCombs(row);
        requirePlace(row, place);
        if (combsMade >= MOST_COMBS) {
            throw new UnsupportedOperationException("60 combs were made");
        }
        if (!takes(row.sort, kind)) {
            return NONE;
        }
        int number = combsMade;
        combsMade++;
        kindOfComb[number] = kind;
        row.cells[place] = number;
        return number;
    }

    public int lift(int box, int place)
            throws IndexOutOfBoundsException, IllegalStateException, NoSuchElementException {
        Content row = contentOf(box);
        requireCombs(row);
        requirePlace(row, place);
        int number = (int) row.cells[place];
        row.cells[place] = NONE;
        return number;
    }

    public int move(int from, int i, int to, int j, int n) throws IndexOutOfBoundsException {
        Content source = contentOf(from);
        Content target = contentOf(to);
        return carry(source, i, target, j, n);
    }

    public int pour(int from, int to) throws IndexOutOfBoundsException {
        Content source = contentOf(from);
        Content target = contentOf(to);
        int n = Math.min(cellsIn(source), cellsIn(target));
        return carry(source, 0, target, 0, n);
    }

    public int moved() {
        return latestMoved;
    }

    public long at(int box, int place)
            throws IndexOutOfBoundsException, IllegalStateException, NoSuchElementException {
        Content row = contentOf(box);
        requireRow(row);
        requirePlace(row, place);
        return row.cells[place];
    }

    public int holds(int box) throws IndexOutOfBoundsException {
        return sortOf(contentOf(box));
    }

    public int places(int box) throws IndexOutOfBoundsException, IllegalStateException {
        Content row = contentOf(box);
        requireRow(row);
        return row.cells.length;
    }

    public boolean same(int box, int other) throws IndexOutOfBoundsException {
        Content one = contentOf(box);
        Content another = contentOf(other);
        return isRow(one) && one == another;
    }

    public long all(int box) throws IndexOutOfBoundsException, IllegalStateException {
        Content row = contentOf(box);
        requireRow(row);
        return isCombs(row) ? sumOfWeights(row.cells) : sumOfNumbers(row.cells);
    }

    public int feed(int comb, int w) throws NoSuchElementException {
        requireComb(comb);
        weightOfComb[comb] += w;
        return weightOfComb[comb];
    }

    public int kind(int comb) throws NoSuchElementException {
        requireComb(comb);
        return kindOfComb[comb];
    }

    public int count(int what) {
        switch (what) {
            case COUNT_ROWS:
                return rowsMade;
            case COUNT_COMBS:
                return combsMade;
            case COUNT_MOVES:
                return movesMade;
            case COUNT_PLACES:
                return placesMoved;
            default:
                return countOfEnd(what);
        }
    }

    private int countOfEnd(int what) {
        if (what <= COUNT_MOVES || what >= COUNT_PLACES) {
            return NONE;
        }
        return movesByEnd[what - COUNT_MOVES];
    }

    private static void requireBox(int box) {
        if (box < 0 || box >= BOXES) {
            throw new IndexOutOfBoundsException("no such box");
        }
    }

    private Content contentOf(int box) {
        requireBox(box);
        return boxes[box];
    }

    private static void requireRow(Content content) {
        if (!isRow(content)) {
            throw new IllegalStateException("the box holds no row");
        }
    }

    private static void requireCombs(Content content) {
        if (!isCombs(content)) {
            throw new IllegalStateException("the box holds no row of combs");
        }
    }

    private static void requirePlace(Content row, int place) {
        if (place < 0 || place >= row.cells.length) {
            throw new NoSuchElementException("no such place");
        }
    }

    private void requireComb(int comb) {
        if (!isComb(comb)) {
            throw new NoSuchElementException("no such comb");
        }
    }

    private boolean isComb(long number) {
        return number >= 0 && number < combsMade;
    }

    private static boolean isRow(Content content) {
        return content != null && content.sort != LID;
    }

    private static boolean isNumbers(Content content) {
        return isRow(content) && content.sort <= BYTES;
    }

    private static boolean isCombs(Content content) {
        return isRow(content) && content.sort >= COMBS_OF_ANY_KIND;
    }

    private static int sortOf(Content content) {
        return content == null ? NONE : content.sort;
    }

    private static int cellsIn(Content content) {
        return content == null ? 0 : content.cells.length;
    }

    private static Content newRow(int sort, int n) {
        long[] cells = new long[n];
        if (sort >= COMBS_OF_ANY_KIND) {
            for (int place = 0; place < n; place++) {
                cells[place] = NONE;
            }
        }
        return new Content(sort, cells);
    }

    private static long lowestBits(int sort, long v) {
        switch (sort) {
            case INTS:
                return (int) v;
            case SHORTS:
                return (short) v;
            case BYTES:
                return (byte) v;
            default:
                return v;
        }
    }

    private static boolean takes(int sort, int kind) {
        // The sorts of combs stand in the order of the kinds that they are of.
        int wanted = sort - COMBS_OF_ANY_KIND;
        return wanted == COMB || wanted == kind || (wanted == HONEY && kind == SEALED);
    }

    private int carry(Content source, int i, Content target, int j, int n) {
        if (source == null || target == null) {
            return ended(ENDED_BY_NOTHING, 0);
        }
        if (!isRow(source) || !isRow(target)) {
            return ended(ENDED_BY_LID, 0);
        }
        if (areUnlike(source, target)) {
            return ended(ENDED_BY_UNLIKE, 0);
        }
        if (isOutside(source, i, n) || isOutside(target, j, n)) {
            return ended(ENDED_BY_OUTSIDE, 0);
        }
        int fitting = howManyFit(source, i, target, n);
        System.arraycopy(source.cells, i, target.cells, j, fitting);
        return ended(fitting < n ? ENDED_BY_WRONG : ENDED_WHOLE, fitting);
    }

    private static boolean areUnlike(Content source, Content target) {
        return source.sort != target.sort && !(isCombs(source) && isCombs(target));
    }

    private static boolean isOutside(Content row, int first, int n) {
        // The sum is taken in 64 bits because in 32 it could wrap to below 0 and seem to fit.
        return first < 0 || n < 0 || (long) first + n > row.cells.length;
    }

    private int howManyFit(Content source, int i, Content target, int n) {
        if (isNumbers(source)) {
            return n;
        }
        for (int k = 0; k < n; k++) {
            long number = source.cells[i + k];
            if (isComb(number) && !takes(target.sort, kindOfComb[(int) number])) {
                return k;
            }
        }
        return n;
    }

    private int ended(int end, int moved) {
        movesMade++;
        movesByEnd[end]++;
        latestMoved = moved;
        placesMoved += moved;
        return end;
    }

    private static long sumOfNumbers(long[] numbers) {
        long sum = 0;
        for (int place = 0; place < numbers.length; place++) {
            sum += numbers[place];
        }
        return sum;
    }

    private long sumOfWeights(long[] numbers) {
        long sum = 0;
        for (int place = 0; place < numbers.length; place++) {
            if (isComb(numbers[place])) {
                sum += weightOfComb[(int) numbers[place]];
            }
        }
        return sum;
    }

    /**
     * What a box may hold. The lid is one too, of a sort of its own and without places, so that a
     * box is a single reference that share() can hand on whatever it is. Every sort keeps its cells
     * as longs (a comb as its number, or NONE), so that one way of copying serves all rows.
     */
    private static final class Content {
        final int sort;
        final long[] cells;

        Content(int sort, long[] cells) {
            this.sort = sort;
            this.cells = cells;
        }
    }
}
