/** Yards to begin a test with, and ways to look at a whole one. */
final class Yards {
    static final int LID = 8;
    static final int NOTHING = HiveYard.NONE;
    static final int MOST = Integer.MAX_VALUE;
    static final int LEAST = Integer.MIN_VALUE;

    /** What stands in the boxes of ordinary(), by its sort; box 9 holds nothing. */
    static final int INTS = 0;
    static final int ANY = 4;
    static final int HONEY = 5;
    static final int SEALED = 7;
    static final int LIDDED = 8;
    static final int EMPTY = 9;
    static final int SHARED_INTS = 10;
    static final int NO_PLACES = 11;

    private Yards() {
    }

    /** From first to last, both with them. */
    static int[] range(int first, int last) {
        int[] numbers = new int[last - first + 1];
        for (int k = 0; k < numbers.length; k++) {
            numbers[k] = first + k;
        }
        return numbers;
    }

    /** A row of numbers, 1 at place 0, 2 at place 1 and so on. */
    static void numbered(HiveYard x, int box, int sort, int n) {
        x.row(box, sort, n);
        for (int place = 0; place < n; place++) {
            x.put(box, place, place + 1);
        }
    }

    /** A row of combs with a new comb of each kind, from place 0 on; NONE leaves a place without. */
    static void combed(HiveYard x, int box, int sort, int... kinds) {
        x.row(box, sort, kinds.length);
        for (int place = 0; place < kinds.length; place++) {
            if (kinds[place] != HiveYard.NONE) {
                x.lay(box, place, kinds[place]);
            }
        }
    }

    static void stands(String what, HiveYard x, int box, long... want) {
        Check.due(what + ", places", () -> x.places(box), want.length);
        for (int place : range(0, want.length - 1)) {
            Check.due(what + ", place " + place, () -> x.at(box, place), want[place]);
        }
    }

    /** Rows of all sorts in the boxes of their numbers, a lid, nothing, a shared row and one without places. */
    static HiveYard ordinary() {
        HiveYard x = new HiveYard();
        for (int sort : range(0, SEALED)) {
            x.row(sort, sort, 2);
        }
        x.put(INTS, 0, 1);
        x.put(INTS, 1, 2);
        x.lay(ANY, 0, 0);
        x.lay(ANY, 1, 1);
        x.lay(SEALED, 0, 3);
        x.feed(1, 7);
        x.lid(LIDDED);
        x.share(SHARED_INTS, INTS);
        x.row(NO_PLACES, 0, 0);
        x.pour(INTS, ANY);
        x.pour(INTS, SHARED_INTS);
        return x;
    }

    /** ordinary(), and all the rows are made that there may be. */
    static HiveYard withAllRows() {
        HiveYard x = ordinary();
        for (int made = 9; made < 300; made++) {
            x.row(EMPTY, 0, 0);
        }
        x.clear(EMPTY);
        return x;
    }

    /** ordinary(), and all the combs are made that there may be. */
    static HiveYard withAllCombs() {
        HiveYard x = ordinary();
        for (int number = 3; number < 60; number++) {
            x.lay(ANY, 1, 1);
        }
        return x;
    }

    /** All that a yard tells, as a text: two of them differ if anything changed in between. */
    static String picture(HiveYard x) {
        StringBuilder text = new StringBuilder();
        for (int box : range(0, 11)) {
            int held = x.holds(box);
            text.append(" box ").append(box).append(" holds ").append(held);
            text.append(x.same(box, (box + SHARED_INTS) % 12) ? " shared" : "");
            if (held != NOTHING && held != LID) {
                text.append(" all ").append(x.all(box)).append(':');
                for (int place : range(0, x.places(box) - 1)) {
                    text.append(' ').append(x.at(box, place));
                }
            }
        }
        for (int what : range(0, 8)) {
            text.append(" count ").append(x.count(what));
        }
        for (int comb : range(0, x.count(1) - 1)) {
            text.append(" comb ").append(x.kind(comb)).append(' ').append(x.feed(comb, 0));
        }
        return text.append(" moved ").append(x.moved()).toString();
    }
}
