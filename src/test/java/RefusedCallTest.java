import java.util.function.Supplier;
import java.util.function.ToLongFunction;

/**
 * Each sentence of the document that has a call throw: which exception, which one comes first when
 * several would, and that a call that throws changes nothing.
 */
public final class RefusedCallTest {
    private static final int[] NO_BOX = {-1, 12, Yards.LEAST, Yards.MOST};
    private static final int[] NO_PLACE_OF_TWO = {-1, 2, 24, Yards.LEAST, Yards.MOST};
    private static final int[] NO_SORT = {-1, 8, Yards.LEAST, Yards.MOST};
    private static final int[] NO_LENGTH = {-1, 25, Yards.LEAST, Yards.MOST};
    private static final int[] NO_KIND = {-1, 4, Yards.LEAST, Yards.MOST};
    private static final int[] NO_COMB = {-1, 3, 59, 60, Yards.LEAST, Yards.MOST};
    private static final int[] NUMBERS = {0, 1, 2, 3, 10, 11};
    private static final int[] COMBS = {4, 5, 6, 7};
    private static final int[] NO_ROW = {Yards.LIDDED, Yards.EMPTY};
    private static final String NO_SUCH_BOX = "IndexOutOfBoundsException when there is no such box";
    private static final String NO_SUCH_PLACE = "then NoSuchElementException when there is no such place";
    private static final String NO_SUCH_COMB = "NoSuchElementException when there is no comb of that NUMBER";
    private static final String NO_FROM_OR_TO = "IndexOutOfBoundsException when there is no such from, or no such to";

    public static void main(String[] args) {
        rowWithoutBox();
        rowWithoutSort();
        rowOfNoLength();
        rowBeyondAllRows();
        lidWithoutBox();
        clearWithoutBox();
        shareWithoutBox();
        putWithoutBox();
        putIntoNoNumbers();
        putWithoutPlace();
        layWithoutBox();
        layWithoutKind();
        layIntoNoCombs();
        layWithoutPlace();
        layBeyondAllCombs();
        liftWithoutBox();
        liftFromNoCombs();
        liftWithoutPlace();
        moveWithoutBox();
        pourWithoutBox();
        atWithoutBox();
        atWithoutRow();
        atWithoutPlace();
        holdsWithoutBox();
        placesWithoutBox();
        placesWithoutRow();
        sameWithoutBox();
        allWithoutBox();
        allWithoutRow();
        feedWithoutComb();
        kindWithoutComb();
        Check.end();
    }

    /** On a yard of its own: what is thrown, and that all the yard tells is as it was. */
    private static void refused(String what, Supplier<HiveYard> yard, ToLongFunction<HiveYard> call, String want) {
        HiveYard x = yard.get();
        String before = Yards.picture(x);
        Check.thrown(what, () -> call.applyAsLong(x), want);
        Check.text(what + ", changes nothing", Yards.picture(x), before);
    }

    private static void refused(String what, ToLongFunction<HiveYard> call, String want) {
        refused(what, Yards::ordinary, call, want);
    }

    private static void rowWithoutBox() {
        Check.sentence("Promise 2", NO_SUCH_BOX);
        for (int box : NO_BOX) {
            refused("box " + box, x -> Check.bit(x.row(box, 0, 1)), Check.BOX);
            refused("ahead of the sort, box " + box, x -> Check.bit(x.row(box, 8, 1)), Check.BOX);
            refused("ahead of n, box " + box, x -> Check.bit(x.row(box, 0, 25)), Check.BOX);
            refused("ahead of 300, box " + box, Yards::withAllRows, x -> Check.bit(x.row(box, 0, 1)), Check.BOX);
        }
    }

    private static void rowWithoutSort() {
        Check.sentence("Promise 2", "then IllegalArgumentException when there is no such SORT");
        for (int sort : NO_SORT) {
            refused("sort " + sort, x -> Check.bit(x.row(0, sort, 1)), Check.ARGUMENT);
            refused("and no such n, sort " + sort, x -> Check.bit(x.row(0, sort, 25)), Check.ARGUMENT);
            refused("ahead of 300, sort " + sort, Yards::withAllRows, x -> Check.bit(x.row(0, sort, 1)),
                    Check.ARGUMENT);
        }
    }

    private static void rowOfNoLength() {
        Check.sentence("Promise 2", "or n is not 0 to 24");
        for (int n : NO_LENGTH) {
            refused("of numbers, n " + n, x -> Check.bit(x.row(0, 1, n)), Check.ARGUMENT);
            refused("of combs, n " + n, x -> Check.bit(x.row(0, 4, n)), Check.ARGUMENT);
            refused("ahead of 300, n " + n, Yards::withAllRows, x -> Check.bit(x.row(0, 1, n)), Check.ARGUMENT);
        }
    }

    private static void rowBeyondAllRows() {
        Check.sentence("Promise 2", "then UnsupportedOperationException when 300 rows were made");
        for (int box : Yards.range(0, 11)) {
            refused("box " + box, Yards::withAllRows, x -> Check.bit(x.row(box, box % 8, 2)), Check.UNSUPPORTED);
        }
        refused("n 0", Yards::withAllRows, x -> Check.bit(x.row(0, 0, 0)), Check.UNSUPPORTED);
        refused("n 24", Yards::withAllRows, x -> Check.bit(x.row(0, 7, 24)), Check.UNSUPPORTED);
    }

    private static void lidWithoutBox() {
        Check.sentence("Promise 3", NO_SUCH_BOX);
        for (int box : NO_BOX) {
            refused("box " + box, x -> Check.bit(x.lid(box)), Check.BOX);
        }
    }

    private static void clearWithoutBox() {
        Check.sentence("Promise 4", NO_SUCH_BOX);
        for (int box : NO_BOX) {
            refused("box " + box, x -> Check.bit(x.clear(box)), Check.BOX);
        }
    }

    private static void shareWithoutBox() {
        Check.sentence("Promise 5", "IndexOutOfBoundsException when there is no such box, or no such from");
        for (int wrong : NO_BOX) {
            for (int box : Yards.range(0, 11)) {
                refused("box " + wrong + " from " + box, x -> x.share(wrong, box), Check.BOX);
                refused("box " + box + " from " + wrong, x -> x.share(box, wrong), Check.BOX);
            }
            refused("both " + wrong, x -> x.share(wrong, wrong), Check.BOX);
        }
    }

    private static void putWithoutBox() {
        Check.sentence("Promise 6", NO_SUCH_BOX);
        for (int box : NO_BOX) {
            refused("box " + box, x -> x.put(box, 0, 5), Check.BOX);
            refused("ahead of the place, box " + box, x -> x.put(box, -1, 5), Check.BOX);
        }
    }

    private static void putIntoNoNumbers() {
        Check.sentence("Promise 6", "then IllegalStateException when it holds no row of numbers");
        for (int[] boxes : new int[][] {COMBS, NO_ROW}) {
            for (int box : boxes) {
                refused("box " + box, x -> x.put(box, 0, 5), Check.STATE);
                refused("ahead of a place too low, box " + box, x -> x.put(box, -1, 5), Check.STATE);
                refused("ahead of a place too high, box " + box, x -> x.put(box, 2, 5), Check.STATE);
            }
        }
    }

    private static void putWithoutPlace() {
        Check.sentence("Promise 6", NO_SUCH_PLACE);
        for (int box : NUMBERS) {
            for (int place : NO_PLACE_OF_TWO) {
                refused("box " + box + " place " + place, x -> x.put(box, place, 5), Check.ELEMENT);
            }
        }
        refused("a row of no places", x -> x.put(Yards.NO_PLACES, 0, 5), Check.ELEMENT);
    }

    private static void layWithoutBox() {
        Check.sentence("Promise 7", NO_SUCH_BOX);
        for (int box : NO_BOX) {
            refused("box " + box, x -> x.lay(box, 0, 0), Check.BOX);
            refused("ahead of the kind, box " + box, x -> x.lay(box, 0, 4), Check.BOX);
            refused("ahead of the place, box " + box, x -> x.lay(box, 2, 0), Check.BOX);
            refused("ahead of 60, box " + box, Yards::withAllCombs, x -> x.lay(box, 0, 0), Check.BOX);
        }
    }

    private static void layWithoutKind() {
        Check.sentence("Promise 7", "then IllegalArgumentException when there is no such KIND");
        for (int kind : NO_KIND) {
            for (int box : Yards.range(0, 11)) {
                refused("box " + box + " kind " + kind, x -> x.lay(box, 0, kind), Check.ARGUMENT);
                refused("ahead of the place, box " + box + " kind " + kind, x -> x.lay(box, 2, kind), Check.ARGUMENT);
            }
            refused("ahead of 60, kind " + kind, Yards::withAllCombs, x -> x.lay(4, 0, kind), Check.ARGUMENT);
        }
    }

    private static void layIntoNoCombs() {
        Check.sentence("Promise 7", "then IllegalStateException when the box holds no row of combs");
        for (int[] boxes : new int[][] {NUMBERS, NO_ROW}) {
            for (int box : boxes) {
                for (int kind : Yards.range(0, 3)) {
                    refused("box " + box + " kind " + kind, x -> x.lay(box, 0, kind), Check.STATE);
                }
                refused("ahead of a place too low, box " + box, x -> x.lay(box, -1, 0), Check.STATE);
                refused("ahead of a place too high, box " + box, x -> x.lay(box, 2, 0), Check.STATE);
                refused("ahead of 60, box " + box, Yards::withAllCombs, x -> x.lay(box, 0, 0), Check.STATE);
            }
        }
    }

    private static void layWithoutPlace() {
        Check.sentence("Promise 7", NO_SUCH_PLACE);
        for (int box : COMBS) {
            for (int place : NO_PLACE_OF_TWO) {
                String what = "box " + box + " place " + place;
                for (int kind : Yards.range(0, 3)) {
                    refused(what + " kind " + kind, x -> x.lay(box, place, kind), Check.ELEMENT);
                }
                refused("ahead of 60, " + what, Yards::withAllCombs, x -> x.lay(box, place, 3), Check.ELEMENT);
            }
        }
    }

    private static void layBeyondAllCombs() {
        Check.sentence("Promise 7", "then UnsupportedOperationException when 60 combs were made");
        for (int box : COMBS) {
            for (int kind : Yards.range(0, 3)) {
                refused("box " + box + " kind " + kind, Yards::withAllCombs, x -> x.lay(box, 0, kind),
                        Check.UNSUPPORTED);
                refused("last place of box " + box + " kind " + kind, Yards::withAllCombs, x -> x.lay(box, 1, kind),
                        Check.UNSUPPORTED);
            }
        }
    }

    private static void liftWithoutBox() {
        Check.sentence("Promise 8", NO_SUCH_BOX);
        for (int box : NO_BOX) {
            refused("box " + box, x -> x.lift(box, 0), Check.BOX);
            refused("ahead of the place, box " + box, x -> x.lift(box, -1), Check.BOX);
        }
    }

    private static void liftFromNoCombs() {
        Check.sentence("Promise 8", "then IllegalStateException when it holds no row of combs");
        for (int[] boxes : new int[][] {NUMBERS, NO_ROW}) {
            for (int box : boxes) {
                refused("box " + box, x -> x.lift(box, 0), Check.STATE);
                refused("ahead of a place too low, box " + box, x -> x.lift(box, -1), Check.STATE);
                refused("ahead of a place too high, box " + box, x -> x.lift(box, 2), Check.STATE);
            }
        }
    }

    private static void liftWithoutPlace() {
        Check.sentence("Promise 8", NO_SUCH_PLACE);
        for (int box : COMBS) {
            for (int place : NO_PLACE_OF_TWO) {
                refused("box " + box + " place " + place, x -> x.lift(box, place), Check.ELEMENT);
            }
        }
    }

    private static void moveWithoutBox() {
        Check.sentence("Promise 9", NO_FROM_OR_TO);
        for (int wrong : NO_BOX) {
            for (int box : Yards.range(0, 11)) {
                refused("from " + wrong + " to " + box, x -> x.move(wrong, 0, box, 0, 1), Check.BOX);
                refused("from " + box + " to " + wrong, x -> x.move(box, 0, wrong, 0, 1), Check.BOX);
                refused("outside, from " + wrong + " to " + box, x -> x.move(wrong, -1, box, -1, -1), Check.BOX);
                refused("outside, from " + box + " to " + wrong, x -> x.move(box, 9, wrong, 9, 9), Check.BOX);
            }
            refused("both " + wrong, x -> x.move(wrong, 0, wrong, 0, 0), Check.BOX);
        }
    }

    private static void pourWithoutBox() {
        Check.sentence("Promise 10", NO_FROM_OR_TO);
        for (int wrong : NO_BOX) {
            for (int box : Yards.range(0, 11)) {
                refused("from " + wrong + " to " + box, x -> x.pour(wrong, box), Check.BOX);
                refused("from " + box + " to " + wrong, x -> x.pour(box, wrong), Check.BOX);
            }
            refused("both " + wrong, x -> x.pour(wrong, wrong), Check.BOX);
        }
    }

    private static void atWithoutBox() {
        Check.sentence("Promise 12", NO_SUCH_BOX);
        for (int box : NO_BOX) {
            refused("box " + box, x -> x.at(box, 0), Check.BOX);
            refused("ahead of the place, box " + box, x -> x.at(box, -1), Check.BOX);
        }
    }

    private static void atWithoutRow() {
        Check.sentence("Promise 12", "then IllegalStateException when it holds no row");
        for (int box : NO_ROW) {
            refused("box " + box, x -> x.at(box, 0), Check.STATE);
            refused("ahead of a place too low, box " + box, x -> x.at(box, -1), Check.STATE);
            refused("ahead of a place too high, box " + box, x -> x.at(box, 24), Check.STATE);
        }
    }

    private static void atWithoutPlace() {
        Check.sentence("Promise 12", NO_SUCH_PLACE);
        for (int[] boxes : new int[][] {NUMBERS, COMBS}) {
            for (int box : boxes) {
                for (int place : NO_PLACE_OF_TWO) {
                    refused("box " + box + " place " + place, x -> x.at(box, place), Check.ELEMENT);
                }
            }
        }
        refused("a row of no places", x -> x.at(Yards.NO_PLACES, 0), Check.ELEMENT);
    }

    private static void holdsWithoutBox() {
        Check.sentence("Promise 13", NO_SUCH_BOX);
        for (int box : NO_BOX) {
            refused("box " + box, x -> x.holds(box), Check.BOX);
        }
    }

    private static void placesWithoutBox() {
        Check.sentence("Promise 14", NO_SUCH_BOX);
        for (int box : NO_BOX) {
            refused("box " + box, x -> x.places(box), Check.BOX);
        }
    }

    private static void placesWithoutRow() {
        Check.sentence("Promise 14", "then IllegalStateException when it holds no row");
        for (int box : NO_ROW) {
            refused("box " + box, x -> x.places(box), Check.STATE);
        }
    }

    private static void sameWithoutBox() {
        Check.sentence("Promise 15", "IndexOutOfBoundsException when there is no such box, or no such other");
        for (int wrong : NO_BOX) {
            for (int box : Yards.range(0, 11)) {
                refused("box " + wrong + " other " + box, x -> Check.bit(x.same(wrong, box)), Check.BOX);
                refused("box " + box + " other " + wrong, x -> Check.bit(x.same(box, wrong)), Check.BOX);
            }
            refused("both " + wrong, x -> Check.bit(x.same(wrong, wrong)), Check.BOX);
        }
    }

    private static void allWithoutBox() {
        Check.sentence("Promise 16", NO_SUCH_BOX);
        for (int box : NO_BOX) {
            refused("box " + box, x -> x.all(box), Check.BOX);
        }
    }

    private static void allWithoutRow() {
        Check.sentence("Promise 16", "then IllegalStateException when it holds no row");
        for (int box : NO_ROW) {
            refused("box " + box, x -> x.all(box), Check.STATE);
        }
    }

    private static void feedWithoutComb() {
        Check.sentence("Promise 17", NO_SUCH_COMB);
        for (int comb : NO_COMB) {
            refused("comb " + comb, x -> x.feed(comb, 1), Check.ELEMENT);
        }
        refused("no comb was made", HiveYard::new, x -> x.feed(0, 1), Check.ELEMENT);
        refused("beyond the last of 60", Yards::withAllCombs, x -> x.feed(60, 1), Check.ELEMENT);
    }

    private static void kindWithoutComb() {
        Check.sentence("Promise 18", NO_SUCH_COMB);
        for (int comb : NO_COMB) {
            refused("comb " + comb, x -> x.kind(comb), Check.ELEMENT);
        }
        refused("no comb was made", HiveYard::new, x -> x.kind(0), Check.ELEMENT);
        refused("beyond the last of 60", Yards::withAllCombs, x -> x.kind(60), Check.ELEMENT);
    }
}
