/** The edges that the document's first part and its Terms name, one method for each sentence. */
public final class TermEdgeTest {
    private static final int NONE = HiveYard.NONE;
    private static final int[] KINDS = Yards.range(0, 3);
    private static final int[] SORTS = Yards.range(0, 7);
    private static final boolean[][] TAKEN = {
        {true, true, true, true},
        {false, true, false, true},
        {false, false, true, false},
        {false, false, false, true},
    };

    public static void main(String[] args) {
        theLastOf512Calls();
        numbersOfCombs();
        weightAtFirst();
        boxes0To11();
        nothingAtFirst();
        rowsOf0To24Places();
        numbersAtFirst();
        bitsOfInts();
        bitsOfLongs();
        bitsOfShorts();
        bitsOfBytes();
        combsAtFirst();
        kindsThatARowTakes();
        kindsThatARowTakesByAMove();
        twoBoxesHoldOneRow();
        oneCombAtSeveralPlaces();
        theConstant();
        Check.end();
    }

    private static void theLastOf512Calls() {
        Check.sentence("What it is", "An object is used for at most 512 calls after it has been made");
        HiveYard x = new HiveYard();
        for (int made = 0; made < 300; made++) {
            x.row(made % 12, 4, 24);
        }
        for (int made = 0; made < 60; made++) {
            x.lay(0, made % 24, 0);
        }
        for (int moves = 0; moves < 148; moves++) {
            x.move(0, 0, 1, 0, 24);
        }
        Check.due("the 509th", () -> x.count(0), 300);
        Check.due("the 510th", () -> x.count(1), 60);
        Check.due("the 511th", () -> x.at(1, 11), 59);
        Check.due("the 512th", () -> x.count(8), 148 * 24);
    }

    private static void numbersOfCombs() {
        Check.sentence("Terms", "A comb has a NUMBER, from 0 on as they are made (60 ever)");
        HiveYard x = new HiveYard();
        x.row(0, 4, 1);
        x.row(1, 6, 1);
        for (int number : Yards.range(0, 59)) {
            Check.due("one that is not taken has no number", () -> x.lay(1, 0, 0), NONE);
            Check.due("number " + number, () -> x.lay(0, 0, number % 4), number);
            Check.due("lifted, " + number, () -> x.lift(0, 0), number);
        }
        Check.thrown("60 ever, though none stands anywhere", () -> x.lay(0, 0, 0), Check.UNSUPPORTED);
        Check.due("the first", () -> x.kind(0), 0);
        Check.due("the last", () -> x.kind(59), 3);
    }

    private static void weightAtFirst() {
        Check.sentence("Terms", "and a WEIGHT, 0 at first");
        HiveYard x = new HiveYard();
        x.row(0, 4, 24);
        for (int number : Yards.range(0, 59)) {
            x.lay(0, number % 24, number % 4);
            Check.due("comb " + number, () -> x.feed(number, 0), 0);
            x.feed(number, 1 + number);
        }
        Check.due("the first one's own", () -> x.feed(0, 0), 1);
        Check.due("the last one's own", () -> x.feed(59, 0), 60);
    }

    private static void boxes0To11() {
        Check.sentence("Terms", "A BOX, 0 to 11");
        HiveYard x = new HiveYard();
        for (int box : Yards.range(0, 11)) {
            x.row(box, 1, 1);
            x.put(box, 0, 100 + box);
        }
        for (int box : Yards.range(0, 11)) {
            Check.due("box " + box, () -> x.at(box, 0), 100 + box);
        }
        Check.thrown("box -1", () -> x.holds(-1), Check.BOX);
        Check.thrown("box 12", () -> x.holds(12), Check.BOX);
    }

    private static void nothingAtFirst() {
        Check.sentence("Terms", "holds NOTHING (at first), a LID, or a ROW");
        HiveYard x = new HiveYard();
        for (int box : Yards.range(0, 11)) {
            Check.due("box " + box, () -> x.holds(box), NONE);
            Check.thrown("no row in box " + box, () -> x.places(box), Check.STATE);
        }
    }

    private static void rowsOf0To24Places() {
        Check.sentence("Terms", "a ROW of 0 to 24 PLACES, from place 0 on");
        for (int sort : SORTS) {
            HiveYard x = new HiveYard();
            for (int n : Yards.range(0, 24)) {
                x.row(0, sort, n);
                Check.due("places", () -> x.places(0), n);
                Check.thrown("none below the first of " + n, () -> x.at(0, -1), Check.ELEMENT);
                Check.thrown("none behind the last of " + n, () -> x.at(0, n), Check.ELEMENT);
                if (n > 0) {
                    Check.due("the first of " + n, () -> x.at(0, 0), sort < 4 ? 0 : NONE);
                    Check.due("the last of " + n, () -> x.at(0, n - 1), sort < 4 ? 0 : NONE);
                }
            }
            Check.thrown("not 25 of sort " + sort, () -> Check.bit(x.row(0, sort, 25)), Check.ARGUMENT);
            Check.thrown("not -1 of sort " + sort, () -> Check.bit(x.row(0, sort, -1)), Check.ARGUMENT);
        }
    }

    private static void numbersAtFirst() {
        Check.sentence("Terms", "of numbers with their sign, 0 at first");
        for (int sort : Yards.range(0, 3)) {
            HiveYard x = new HiveYard();
            x.row(0, sort, 24);
            for (int place : Yards.range(0, 23)) {
                Check.due("sort " + sort + " place " + place, () -> x.at(0, place), 0);
                x.put(0, place, -1);
                Check.due("its sign, sort " + sort + " place " + place, () -> x.at(0, place), -1);
            }
            x.row(0, sort, 24);
            Check.due("a new one over it, sort " + sort, () -> x.all(0), 0);
        }
    }

    /** What is put and what then stands, one after the other at one place. */
    private static void becomes(int sort, long[][] pairs) {
        HiveYard x = new HiveYard();
        x.row(0, sort, 1);
        long before = 0;
        for (long[] pair : pairs) {
            Check.due("what it was ahead of " + pair[0], () -> x.put(0, 0, pair[0]), before);
            Check.due("what it is by " + pair[0], () -> x.at(0, 0), pair[1]);
            Check.due("what it adds to all by " + pair[0], () -> x.all(0), pair[1]);
            before = pair[1];
        }
    }

    private static void bitsOfInts() {
        Check.sentence("Terms", "0 INTS (32 bits)");
        becomes(0, new long[][] {
            {2147483647L, 2147483647L}, {2147483648L, -2147483648L}, {-2147483648L, -2147483648L},
            {-2147483649L, 2147483647L}, {4294967295L, -1}, {4294967296L, 0}, {-4294967297L, -1},
            {Long.MAX_VALUE, -1}, {Long.MIN_VALUE, 0}, {32768, 32768}, {-129, -129},
        });
    }

    private static void bitsOfLongs() {
        Check.sentence("Terms", "1 LONGS (64)");
        becomes(1, new long[][] {
            {Long.MAX_VALUE, Long.MAX_VALUE}, {Long.MIN_VALUE, Long.MIN_VALUE}, {-1, -1},
            {2147483648L, 2147483648L}, {-2147483649L, -2147483649L}, {4294967296L, 4294967296L}, {0, 0},
        });
    }

    private static void bitsOfShorts() {
        Check.sentence("Terms", "2 SHORTS (16)");
        becomes(2, new long[][] {
            {32767, 32767}, {32768, -32768}, {-32768, -32768}, {-32769, 32767}, {65535, -1}, {65536, 0},
            {-65537, -1}, {2147483647L, -1}, {2147483648L, 0}, {Long.MAX_VALUE, -1}, {Long.MIN_VALUE, 0}, {128, 128},
        });
    }

    private static void bitsOfBytes() {
        Check.sentence("Terms", "3 BYTES (8)");
        becomes(3, new long[][] {
            {127, 127}, {128, -128}, {-128, -128}, {-129, 127}, {255, -1}, {256, 0}, {-257, -1},
            {32767, -1}, {32768, 0}, {2147483647L, -1}, {Long.MAX_VALUE, -1}, {Long.MIN_VALUE, 0},
        });
    }

    private static void combsAtFirst() {
        Check.sentence("Terms", "of combs, no comb at first");
        for (int sort : Yards.range(4, 7)) {
            HiveYard x = new HiveYard();
            x.row(0, sort, 24);
            for (int place : Yards.range(0, 23)) {
                Check.due("sort " + sort + " place " + place, () -> x.at(0, place), NONE);
                Check.due("none to lift, sort " + sort + " place " + place, () -> x.lift(0, place), NONE);
            }
            Check.due("together, sort " + sort, () -> x.all(0), 0);
        }
    }

    private static void kindsThatARowTakes() {
        Check.sentence("Terms", "which take combs of that KIND or below");
        for (int row : KINDS) {
            for (int kind : KINDS) {
                HiveYard x = new HiveYard();
                x.row(0, 4 + row, 1);
                int number = TAKEN[row][kind] ? 0 : NONE;
                Check.due("sort " + (4 + row) + " kind " + kind, () -> x.lay(0, 0, kind), number);
                Check.due("stands, sort " + (4 + row) + " kind " + kind, () -> x.at(0, 0), number);
            }
        }
    }

    private static void kindsThatARowTakesByAMove() {
        Check.sentence("Terms", "0 COMB; below it are 1 HONEY and 2 BROOD; below HONEY is 3 SEALED");
        for (int row : KINDS) {
            for (int kind : KINDS) {
                HiveYard x = new HiveYard();
                Yards.combed(x, 0, 4, kind);
                x.row(1, 4 + row, 1);
                boolean taken = TAKEN[row][kind];
                Check.due("to sort " + (4 + row) + " kind " + kind, () -> x.pour(0, 1), taken ? 0 : 5);
                Check.due("how far, sort " + (4 + row) + " kind " + kind, () -> x.moved(), taken ? 1 : 0);
                Check.due("stands, sort " + (4 + row) + " kind " + kind, () -> x.at(1, 0), taken ? 0 : NONE);
            }
        }
    }

    private static void twoBoxesHoldOneRow() {
        Check.sentence("Terms", "Two boxes may hold one row");
        HiveYard x = new HiveYard();
        Yards.numbered(x, 0, 0, 2);
        x.share(11, 0);
        x.put(11, 1, 9);
        Yards.stands("put through the other", x, 0, 1, 9);
        Yards.numbered(x, 1, 0, 2);
        x.pour(1, 11);
        Yards.stands("moved through the other", x, 0, 1, 2);
        x.clear(0);
        Yards.stands("the one is cleared", x, 11, 1, 2);
        Yards.combed(x, 2, 4, 0, NONE);
        x.share(3, 2);
        x.lay(3, 1, 1);
        Yards.stands("laid through the other", x, 2, 0, 1);
        x.lift(2, 0);
        Yards.stands("lifted through the one", x, 3, NONE, 1);
        x.lid(2);
        Yards.stands("the one has a lid", x, 3, NONE, 1);
        x.share(2, 3);
        x.row(3, 4, 1);
        Yards.stands("the other has a new row", x, 2, NONE, 1);
    }

    private static void oneCombAtSeveralPlaces() {
        Check.sentence("Terms", "one comb may stand at several places");
        HiveYard x = new HiveYard();
        Yards.combed(x, 0, 4, 3, NONE, NONE);
        x.move(0, 0, 0, 1, 1);
        x.move(0, 0, 0, 2, 1);
        x.row(1, 7, 1);
        x.pour(0, 1);
        Yards.stands("thrice in a row", x, 0, 0, 0, 0);
        Yards.stands("and in another", x, 1, 0);
        x.feed(0, 5);
        Check.due("its weight stands at each", () -> x.all(0), 15);
        Check.due("and in the other row", () -> x.all(1), 5);
        Check.due("lifted from one", () -> x.lift(0, 1), 0);
        Yards.stands("stands at the others", x, 0, 0, NONE, 0);
        Check.due("one comb only", () -> x.count(1), 1);
    }

    private static void theConstant() {
        Check.sentence("Terms", "NONE = -1");
        Check.due("NONE", () -> HiveYard.NONE, -1);
    }
}
