/** The edges that promises 1 to 8 and 12 to 19 name, without what throws: one method for each sentence. */
public final class PromiseEdgeTest {
    private static final int NONE = HiveYard.NONE;
    private static final int[] SORTS = Yards.range(0, 7);

    public static void main(String[] args) {
        newObject();
        rowWhetherNothingBefore();
        rowOfASort();
        rowThe300th();
        lidWhetherNoneBefore();
        clearWhetherSomethingBefore();
        shareThatVeryRow();
        shareALid();
        shareNothing();
        shareWithItself();
        putWhatItWas();
        layItsNumber();
        layNotTaken();
        layThe60th();
        liftTheNumber();
        atANumber();
        atAComb();
        holdsEach();
        placesOfARow();
        sameRow();
        sameNeedsARow();
        allOfNumbersWraps();
        allOfWeights();
        allOfNoPlaces();
        feedWraps();
        feedWhereverItStands();
        kindOfAComb();
        countOfRows();
        countOfCombs();
        countOfMoves();
        countOfEnds();
        countOfPlaces();
        countOfAnother();
        Check.end();
    }

    private static void newObject() {
        Check.sentence("Promise 1", "Boxes that hold nothing, no combs");
        HiveYard filled = Yards.withAllCombs();
        HiveYard x = new HiveYard();
        for (int box : Yards.range(0, 11)) {
            Check.due("box " + box, () -> x.holds(box), NONE);
        }
        Check.due("combs", () -> x.count(1), 0);
        Check.thrown("comb 0", () -> x.kind(0), Check.ELEMENT);
        x.row(0, 4, 1);
        Check.due("the first number, whatever another object made", () -> x.lay(0, 0, 2), 0);
        Check.due("the other one's comb 0", () -> filled.kind(0), 0);
    }

    private static void rowWhetherNothingBefore() {
        Check.sentence("Promise 2", "whether it held nothing before");
        HiveYard x = new HiveYard();
        Check.due("nothing at first", x.row(0, 0, 0), true);
        Check.due("a row of no places", x.row(0, 4, 24), false);
        Check.due("a row", x.row(0, 0, 1), false);
        x.lid(0);
        Check.due("a lid", x.row(0, 0, 1), false);
        x.clear(0);
        Check.due("cleared", x.row(0, 0, 1), true);
        x.share(0, 5);
        Check.due("what shares nothing", x.row(0, 0, 1), true);
        x.share(5, 0);
        Check.due("what shares a row", x.row(5, 0, 1), false);
    }

    private static void rowOfASort() {
        Check.sentence("Promise 2", "A box holds a new row of a SORT with n places");
        for (int sort : SORTS) {
            HiveYard x = new HiveYard();
            Check.due("the least, sort " + sort, x.row(0, sort, 0), true);
            Check.due("the most, sort " + sort, x.row(11, sort, 24), true);
            Check.due("its sort, least", () -> x.holds(0), sort);
            Check.due("its sort, most", () -> x.holds(11), sort);
            Check.due("its places, least", () -> x.places(0), 0);
            Check.due("its places, most", () -> x.places(11), 24);
            x.share(1, 11);
            x.row(11, sort, 24);
            Check.due("it is a new one", x.same(1, 11), false);
        }
    }

    private static void rowThe300th() {
        Check.sentence("Promise 2", "then UnsupportedOperationException when 300 rows were made");
        HiveYard x = new HiveYard();
        for (int made = 0; made < 299; made++) {
            x.row(0, made % 8, 24);
        }
        for (int refused : Yards.range(0, 9)) {
            Check.thrown("what is refused is not made, " + refused, () -> Check.bit(x.row(0, 8, 0)), Check.ARGUMENT);
        }
        x.share(1, 0);
        x.lid(0);
        Check.due("the 300th", x.row(2, 0, 24), true);
        Check.due("it stands", () -> x.places(2), 24);
        Check.thrown("the 301st", () -> Check.bit(x.row(3, 0, 24)), Check.UNSUPPORTED);
        x.clear(2);
        Check.thrown("still, after one is gone", () -> Check.bit(x.row(2, 0, 24)), Check.UNSUPPORTED);
        Check.due("made", () -> x.count(0), 300);
    }

    private static void lidWhetherNoneBefore() {
        Check.sentence("Promise 3", "A box holds a lid: whether it held no lid before");
        for (int box : Yards.range(0, 11)) {
            HiveYard x = Yards.ordinary();
            Check.due("box " + box, x.lid(box), box != Yards.LIDDED);
            Check.due("holds, box " + box, () -> x.holds(box), Yards.LID);
            Check.due("again, box " + box, x.lid(box), false);
            x.clear(box);
            Check.due("cleared, box " + box, x.lid(box), true);
        }
        HiveYard x = Yards.ordinary();
        x.share(0, Yards.LIDDED);
        Check.due("a lid by share", x.lid(0), false);
        x.clear(Yards.LIDDED);
        Check.due("the other box keeps its lid", () -> x.holds(0), Yards.LID);
    }

    private static void clearWhetherSomethingBefore() {
        Check.sentence("Promise 4", "A box holds nothing: whether it held something before");
        for (int box : Yards.range(0, 11)) {
            HiveYard x = Yards.ordinary();
            Check.due("box " + box, x.clear(box), box != Yards.EMPTY);
            Check.due("holds, box " + box, () -> x.holds(box), NONE);
            Check.due("again, box " + box, x.clear(box), false);
        }
    }

    private static void shareThatVeryRow() {
        Check.sentence("Promise 5", "A box holds what box from holds (that very row");
        for (int sort : SORTS) {
            HiveYard x = Yards.ordinary();
            Check.due("as holds() tells it, sort " + sort, () -> x.share(Yards.EMPTY, sort), sort);
            Check.due("that very row, sort " + sort, x.same(Yards.EMPTY, sort), true);
            Check.due("over a lid, sort " + sort, () -> x.share(Yards.LIDDED, sort), sort);
            Check.due("over a row, sort " + sort, () -> x.share(Yards.NO_PLACES, sort), sort);
            Check.due("all one row, sort " + sort, x.same(Yards.NO_PLACES, Yards.LIDDED), true);
            Check.due("none is made, sort " + sort, () -> x.count(0), 9);
        }
        HiveYard x = Yards.ordinary();
        Check.due("a row of no places", () -> x.share(Yards.EMPTY, Yards.NO_PLACES), 0);
        x.share(Yards.INTS, Yards.NO_PLACES);
        Yards.stands("the row that it held stays in the other box", x, Yards.SHARED_INTS, 1, 2);
    }

    private static void shareALid() {
        Check.sentence("Promise 5", "a lid; nothing): what that is, as holds() tells it");
        HiveYard x = Yards.ordinary();
        Check.due("over a row", () -> x.share(0, Yards.LIDDED), Yards.LID);
        Check.due("over nothing", () -> x.share(Yards.EMPTY, Yards.LIDDED), Yards.LID);
        Check.due("over a lid", () -> x.share(Yards.EMPTY, Yards.LIDDED), Yards.LID);
        Check.due("holds", () -> x.holds(0), Yards.LID);
        x.row(Yards.LIDDED, 0, 1);
        Check.due("holds, whatever the other box holds later", () -> x.holds(0), Yards.LID);
    }

    private static void shareNothing() {
        Check.sentence("Promise 5", "a lid; nothing): what that is, as holds() tells it");
        HiveYard x = Yards.ordinary();
        Check.due("over a row", () -> x.share(0, Yards.EMPTY), NONE);
        Check.due("over a lid", () -> x.share(Yards.LIDDED, Yards.EMPTY), NONE);
        Check.due("over nothing", () -> x.share(0, Yards.LIDDED), NONE);
        Check.due("holds, was a row", () -> x.holds(0), NONE);
        Check.due("holds, was a lid", () -> x.holds(Yards.LIDDED), NONE);
    }

    private static void shareWithItself() {
        Check.sentence("Promise 5", "A box holds what box from holds");
        for (int box : Yards.range(0, 11)) {
            HiveYard x = Yards.ordinary();
            int held = x.holds(box);
            String before = Yards.picture(x);
            Check.due("with itself, box " + box, () -> x.share(box, box), held);
            Check.text("as it was, box " + box, Yards.picture(x), before);
        }
    }

    private static void putWhatItWas() {
        Check.sentence("Promise 6", "A place of a row of numbers becomes v (its lowest bits, as many as the SORT has): what it was");
        long v = 0x8877665544332211L;
        long[] kept = {0x44332211L, v, 0x2211L, 0x11L};
        for (int sort : Yards.range(0, 3)) {
            HiveYard x = new HiveYard();
            x.row(0, sort, 24);
            for (int place : new int[] {0, 23}) {
                String what = "sort " + sort + " place " + place;
                Check.due(what + ", was 0", () -> x.put(0, place, v), 0);
                Check.due(what + ", was cut", () -> x.put(0, place, -v), kept[sort]);
                Check.due(what + ", the same again", () -> x.put(0, place, -v), -kept[sort]);
                Check.due(what + ", its sign", () -> x.at(0, place), -kept[sort]);
            }
            Check.due("beside the first, sort " + sort, () -> x.at(0, 1), 0);
            Check.due("beside the last, sort " + sort, () -> x.at(0, 22), 0);
        }
    }

    private static void layItsNumber() {
        Check.sentence("Promise 7", "A new comb of a KIND is laid at a place of a row of combs: its NUMBER");
        HiveYard x = new HiveYard();
        x.row(11, 4, 24);
        Check.due("the first place", () -> x.lay(11, 0, 0), 0);
        Check.due("the last place", () -> x.lay(11, 23, 3), 1);
        Check.due("over another", () -> x.lay(11, 0, 2), 2);
        Check.due("stands at the first", () -> x.at(11, 0), 2);
        Check.due("stands at the last", () -> x.at(11, 23), 1);
        Check.due("beside the first", () -> x.at(11, 1), NONE);
        Check.due("beside the last", () -> x.at(11, 22), NONE);
        Check.due("the one that it was laid over", () -> x.kind(0), 0);
    }

    private static void layNotTaken() {
        Check.sentence("Promise 7", "NONE, and it is not made, when the row does not take it");
        int[][] refused = {{5, 0}, {5, 2}, {6, 0}, {6, 1}, {6, 3}, {7, 0}, {7, 1}, {7, 2}};
        for (int[] pair : refused) {
            HiveYard x = new HiveYard();
            Yards.combed(x, 0, pair[0], pair[0] - 4, NONE);
            String before = Yards.picture(x);
            String what = "sort " + pair[0] + " kind " + pair[1];
            Check.due(what + ", over a comb", () -> x.lay(0, 0, pair[1]), NONE);
            Check.due(what + ", over none", () -> x.lay(0, 1, pair[1]), NONE);
            Check.text(what + ", changes nothing", Yards.picture(x), before);
            Check.due(what + ", the next number", () -> x.lay(0, 1, pair[0] - 4), 1);
        }
    }

    private static void layThe60th() {
        Check.sentence("Promise 7", "then UnsupportedOperationException when 60 combs were made");
        HiveYard x = new HiveYard();
        x.row(0, 4, 2);
        x.row(1, 7, 1);
        for (int made = 0; made < 59; made++) {
            x.lay(0, 0, 3);
            x.lay(1, 0, 0);
        }
        Check.due("one that is not taken, ahead of the 60th", () -> x.lay(1, 0, 0), NONE);
        Check.due("the 60th", () -> x.lay(0, 1, 2), 59);
        Check.thrown("the 61st", () -> x.lay(0, 1, 2), Check.UNSUPPORTED);
        Check.thrown("one that is not taken, behind the 60th", () -> x.lay(1, 0, 0), Check.UNSUPPORTED);
        Check.due("the 60th stands", () -> x.at(0, 1), 59);
        x.clear(0);
        x.row(0, 4, 1);
        Check.thrown("still, after some are gone", () -> x.lay(0, 0, 0), Check.UNSUPPORTED);
    }

    private static void liftTheNumber() {
        Check.sentence("Promise 8", "A place of a row of combs has no comb any more: the NUMBER of the one that stood there, NONE without");
        for (int sort : Yards.range(4, 7)) {
            HiveYard x = new HiveYard();
            x.row(0, sort, 24);
            Check.due("none yet, sort " + sort, () -> x.lift(0, 23), NONE);
            x.lay(0, 0, sort - 4);
            x.lay(0, 23, sort - 4);
            Check.due("the first, number 0, sort " + sort, () -> x.lift(0, 0), 0);
            Check.due("the last, sort " + sort, () -> x.lift(0, 23), 1);
            Check.due("none any more, sort " + sort, () -> x.lift(0, 0), NONE);
            Check.due("none stands, sort " + sort, () -> x.at(0, 23), NONE);
            Check.due("they were made, sort " + sort, () -> x.count(1), 2);
        }
    }

    private static void atANumber() {
        Check.sentence("Promise 12", "What stands at a place of a row: the number");
        HiveYard x = new HiveYard();
        x.row(0, 1, 24);
        x.put(0, 0, Long.MIN_VALUE);
        x.put(0, 23, Long.MAX_VALUE);
        x.put(0, 11, NONE);
        Check.due("the first place", () -> x.at(0, 0), Long.MIN_VALUE);
        Check.due("the last place", () -> x.at(0, 23), Long.MAX_VALUE);
        Check.due("a number that is -1", () -> x.at(0, 11), -1);
        Check.due("a place that was not put", () -> x.at(0, 12), 0);
    }

    private static void atAComb() {
        Check.sentence("Promise 12", "the comb's NUMBER, NONE without one");
        HiveYard x = new HiveYard();
        x.row(0, 5, 24);
        x.lay(0, 23, 1);
        x.lay(0, 0, 3);
        Check.due("the first place", () -> x.at(0, 0), 1);
        Check.due("the last place, number 0", () -> x.at(0, 23), 0);
        Check.due("without one", () -> x.at(0, 1), NONE);
        x.lift(0, 23);
        Check.due("lifted", () -> x.at(0, 23), NONE);
    }

    private static void holdsEach() {
        Check.sentence("Promise 13", "What a box holds: NONE nothing, 8 a lid; else the SORT of its row");
        HiveYard x = Yards.ordinary();
        for (int sort : SORTS) {
            Check.due("sort " + sort, () -> x.holds(sort), sort);
        }
        Check.due("a lid", () -> x.holds(Yards.LIDDED), 8);
        Check.due("nothing", () -> x.holds(Yards.EMPTY), -1);
        Check.due("a shared row", () -> x.holds(Yards.SHARED_INTS), 0);
        Check.due("a row of no places", () -> x.holds(Yards.NO_PLACES), 0);
    }

    private static void placesOfARow() {
        Check.sentence("Promise 14", "How many places a box's row has");
        HiveYard x = new HiveYard();
        for (int n : Yards.range(0, 24)) {
            for (int sort : SORTS) {
                x.row(0, sort, n);
                Check.due("sort " + sort + " n " + n, () -> x.places(0), n);
            }
        }
        x.share(11, 0);
        x.lid(0);
        Check.due("by the box that shares it", () -> x.places(11), 24);
    }

    private static void sameRow() {
        Check.sentence("Promise 15", "Whether two boxes hold one and the same row");
        HiveYard x = Yards.ordinary();
        for (int box : Yards.range(0, 11)) {
            for (int other : Yards.range(0, 11)) {
                boolean rows = box != Yards.LIDDED && box != Yards.EMPTY;
                boolean shared = box + other == Yards.SHARED_INTS && (box == 0 || other == 0);
                Check.due("box " + box + " other " + other, x.same(box, other), rows && box == other || shared);
            }
        }
        x.row(Yards.SHARED_INTS, 0, 2);
        x.pour(Yards.INTS, Yards.SHARED_INTS);
        Check.due("two rows with the same numbers", x.same(Yards.INTS, Yards.SHARED_INTS), false);
        x.row(1, 0, 0);
        Check.due("two rows of no places", x.same(1, Yards.NO_PLACES), false);
        x.share(1, Yards.NO_PLACES);
        Check.due("one row of no places", x.same(1, Yards.NO_PLACES), true);
    }

    private static void sameNeedsARow() {
        Check.sentence("Promise 15", "one and the same row");
        HiveYard x = new HiveYard();
        x.lid(0);
        x.share(1, 0);
        x.lid(2);
        Check.due("a lid by share", x.same(0, 1), false);
        Check.due("a lid and another", x.same(0, 2), false);
        Check.due("a lid and itself", x.same(0, 0), false);
        Check.due("nothing twice", x.same(10, 11), false);
        Check.due("nothing and itself", x.same(11, 11), false);
        Check.due("a lid and nothing", x.same(0, 11), false);
    }

    private static void allOfNumbersWraps() {
        Check.sentence("Promise 16", "its numbers, or the WEIGHTS of its combs, place by place (64 bits, it wraps)");
        HiveYard x = new HiveYard();
        x.row(0, 1, 24);
        x.put(0, 0, Long.MAX_VALUE);
        Check.due("the most", () -> x.all(0), Long.MAX_VALUE);
        x.put(0, 23, 1);
        Check.due("one more than the most", () -> x.all(0), Long.MIN_VALUE);
        x.put(0, 0, Long.MIN_VALUE);
        x.put(0, 23, -1);
        Check.due("one less than the least", () -> x.all(0), Long.MAX_VALUE);
        long[] least = {Integer.MIN_VALUE, Long.MIN_VALUE, Short.MIN_VALUE, Byte.MIN_VALUE};
        long[] together = {24L * Integer.MIN_VALUE, 0, 24L * Short.MIN_VALUE, 24L * Byte.MIN_VALUE};
        for (int sort : Yards.range(0, 3)) {
            x.row(1, sort, 24);
            for (int place = 0; place < 24; place++) {
                x.put(1, place, least[sort]);
            }
            Check.due("24 of the least, sort " + sort, () -> x.all(1), together[sort]);
        }
    }

    private static void allOfWeights() {
        Check.sentence("Promise 16", "or the WEIGHTS of its combs, place by place (64 bits, it wraps)");
        HiveYard x = new HiveYard();
        Yards.combed(x, 0, 4, 0, NONE, NONE, 1);
        Check.due("at first", () -> x.all(0), 0);
        x.feed(0, Integer.MAX_VALUE);
        x.feed(1, Integer.MAX_VALUE);
        Check.due("more than 32 bits", () -> x.all(0), 2L * Integer.MAX_VALUE);
        x.move(0, 0, 0, 1, 1);
        Check.due("one that stands twice", () -> x.all(0), 3L * Integer.MAX_VALUE);
        x.feed(0, 1);
        Check.due("its weight wraps, at both places", () -> x.all(0), 2L * Integer.MIN_VALUE + Integer.MAX_VALUE);
        x.lift(0, 3);
        Check.due("without the one that is lifted", () -> x.all(0), 2L * Integer.MIN_VALUE);
        x.row(1, 4, 24);
        for (int place = 0; place < 24; place++) {
            x.move(0, 0, 1, place, 1);
        }
        Check.due("at all places", () -> x.all(1), 24L * Integer.MIN_VALUE);
    }

    private static void allOfNoPlaces() {
        Check.sentence("Promise 16", "All that stands in a box's row together");
        for (int sort : SORTS) {
            HiveYard x = new HiveYard();
            x.row(0, sort, 0);
            Check.due("no places, sort " + sort, () -> x.all(0), 0);
            x.row(1, sort, 24);
            Check.due("as it is at first, sort " + sort, () -> x.all(1), 0);
        }
    }

    private static void feedWraps() {
        Check.sentence("Promise 17", "A comb's WEIGHT grows by w (32 bits, it wraps): what it is then");
        HiveYard x = new HiveYard();
        Yards.combed(x, 0, 4, 0, 1);
        Check.due("the most", () -> x.feed(0, Integer.MAX_VALUE), Integer.MAX_VALUE);
        Check.due("by 0", () -> x.feed(0, 0), Integer.MAX_VALUE);
        Check.due("one more", () -> x.feed(0, 1), Integer.MIN_VALUE);
        Check.due("one less", () -> x.feed(0, -1), Integer.MAX_VALUE);
        Check.due("by the least", () -> x.feed(0, Integer.MIN_VALUE), -1);
        Check.due("by the least again", () -> x.feed(0, Integer.MIN_VALUE), Integer.MAX_VALUE);
        Check.due("the other one's", () -> x.feed(1, Integer.MIN_VALUE), Integer.MIN_VALUE);
        Check.due("the other one's, wrapped to 0", () -> x.feed(1, Integer.MIN_VALUE), 0);
    }

    private static void feedWhereverItStands() {
        Check.sentence("Promise 17", "NoSuchElementException when there is no comb of that NUMBER");
        HiveYard x = Yards.withAllCombs();
        for (int comb : Yards.range(3, 59)) {
            Check.due("comb " + comb, () -> x.feed(comb, comb), comb);
        }
        Check.thrown("comb 60", () -> x.feed(60, 1), Check.ELEMENT);
        x.clear(Yards.ANY);
        Check.due("one that stands nowhere", () -> x.feed(59, 1), 60);
    }

    private static void kindOfAComb() {
        Check.sentence("Promise 18", "A comb's KIND");
        HiveYard x = new HiveYard();
        x.row(0, 4, 1);
        x.row(1, 5, 1);
        for (int comb : Yards.range(0, 59)) {
            Check.thrown("not yet, comb " + comb, () -> x.kind(comb), Check.ELEMENT);
            x.lay(0, 0, comb % 4);
            Check.due("comb " + comb, () -> x.kind(comb), comb % 4);
        }
        x.pour(0, 1);
        Check.due("sealed in a row of honey is sealed", () -> x.kind(59), 3);
        Check.due("one that stands nowhere", () -> x.kind(1), 1);
        Check.thrown("comb 60", () -> x.kind(60), Check.ELEMENT);
    }

    private static void countOfRows() {
        Check.sentence("Promise 19", "0 how many rows were made");
        HiveYard x = new HiveYard();
        Check.due("at first", () -> x.count(0), 0);
        x.row(0, 0, 0);
        x.row(0, 4, 24);
        Check.due("one over another", () -> x.count(0), 2);
        x.share(1, 0);
        x.lid(2);
        x.clear(0);
        Check.thrown("one that is refused", () -> Check.bit(x.row(0, 0, 25)), Check.ARGUMENT);
        Check.due("as many", () -> x.count(0), 2);
        HiveYard full = Yards.withAllRows();
        Check.due("all", () -> full.count(0), 300);
        Check.thrown("one more", () -> Check.bit(full.row(0, 0, 0)), Check.UNSUPPORTED);
        Check.due("all still", () -> full.count(0), 300);
    }

    private static void countOfCombs() {
        Check.sentence("Promise 19", "1 combs that were made");
        HiveYard x = new HiveYard();
        Check.due("at first", () -> x.count(1), 0);
        Yards.combed(x, 0, 7, 3, 3);
        Check.due("two", () -> x.count(1), 2);
        x.lay(0, 0, 0);
        x.lift(0, 0);
        x.move(0, 1, 0, 0, 1);
        x.clear(0);
        Check.due("as many", () -> x.count(1), 2);
        HiveYard full = Yards.withAllCombs();
        Check.due("all", () -> full.count(1), 60);
        Check.thrown("one more", () -> full.lay(Yards.ANY, 0, 0), Check.UNSUPPORTED);
        Check.due("all still", () -> full.count(1), 60);
    }

    private static void countOfMoves() {
        Check.sentence("Promise 19", "2 MOVES");
        HiveYard x = new HiveYard();
        Check.due("at first", () -> x.count(2), 0);
        x.move(0, 0, 1, 0, 0);
        x.pour(0, 1);
        x.row(0, 0, 1);
        x.move(0, 0, 0, 0, 0);
        x.pour(0, 0);
        Check.due("each, however it ends", () -> x.count(2), 4);
        Check.thrown("a move that throws", () -> x.move(0, 0, 12, 0, 0), Check.BOX);
        Check.thrown("a pour that throws", () -> x.pour(12, 0), Check.BOX);
        Check.due("as many", () -> x.count(2), 4);
    }

    private static void countOfEnds() {
        Check.sentence("Promise 19", "3 to 7 MOVES that ENDED by 1 to 5");
        int[][] moves = {
            {Yards.INTS, 0, Yards.INTS, 0, 1},
            {Yards.INTS, 0, Yards.EMPTY, 0, 1},
            {Yards.INTS, 0, Yards.LIDDED, 0, 1},
            {Yards.INTS, 0, Yards.ANY, 0, 1},
            {Yards.INTS, 0, Yards.INTS, 0, 3},
            {Yards.ANY, 0, Yards.HONEY, 0, 2},
        };
        for (int end : Yards.range(0, 5)) {
            HiveYard x = Yards.ordinary();
            int[] m = moves[end];
            Check.due("ends", () -> x.move(m[0], m[1], m[2], m[3], m[4]), end);
            for (int by : Yards.range(1, 5)) {
                // ordinary() itself made one MOVE that ended by 3.
                int due = (by == end ? 1 : 0) + (by == 3 ? 1 : 0);
                Check.due("by " + by + " after one by " + end, () -> x.count(2 + by), due);
            }
        }
    }

    private static void countOfPlaces() {
        Check.sentence("Promise 19", "8 places that were MOVED by all");
        HiveYard x = new HiveYard();
        Check.due("at first", () -> x.count(8), 0);
        Yards.combed(x, 0, 4, 3, NONE, 0);
        x.row(1, 7, 24);
        x.pour(0, 1);
        Check.due("those ahead of a wrong one, one without a comb among them", () -> x.count(8), 2);
        x.pour(1, 1);
        Check.due("those of a row into itself", () -> x.count(8), 26);
        x.move(0, 0, 1, 0, 0);
        x.move(0, 0, 1, 0, 4);
        x.pour(0, 9);
        Check.due("none by others", () -> x.count(8), 26);
        x.move(1, 0, 0, 0, 1);
        Check.due("one more", () -> x.count(8), 27);
    }

    private static void countOfAnother() {
        Check.sentence("Promise 19", "NONE for another what");
        HiveYard x = Yards.ordinary();
        for (int what : new int[] {-1, -2, 9, 10, 60, 300, Yards.LEAST, Yards.MOST}) {
            Check.due("what " + what, () -> x.count(what), NONE);
        }
    }
}
