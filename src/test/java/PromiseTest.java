/** Each promise of the document by itself: ordinary inputs, the edges that it names, wrong inputs. */
public final class PromiseTest {
    private static final int[] NO_BOX = {-1, 12, 13, Integer.MIN_VALUE, Integer.MAX_VALUE};
    private static final int[] NO_COMB = {-1, 1, 60, Integer.MIN_VALUE, Integer.MAX_VALUE};
    private static final int NUMBERS = 4;
    private static final int SORTS = 8;
    private static final int LID = 8;

    public static void main(String[] args) {
        promise1NewObject();
        promise2Row();
        promise2RowThrows();
        promise3Lid();
        promise4Clear();
        promise5Share();
        promise6Put();
        promise6PutThrows();
        promise7Lay();
        promise7LayThrows();
        promise8Lift();
        promise9MoveOfNumbers();
        promise9MoveWithinOneRow();
        promise9MoveOfCombs();
        promise9MoveWrong();
        promise9MoveEnds();
        promise9MoveOutside();
        promise10Pour();
        promise11Moved();
        promise12At();
        promise13Holds();
        promise14Places();
        promise15Same();
        promise16All();
        promise17Feed();
        promise18Kind();
        promise19Count();
        Check.end();
    }

    private static void promise1NewObject() {
        HiveYard x = new HiveYard();
        for (int b = 0; b < 12; b++) {
            int box = b;
            Check.due("1 holds", () -> x.holds(box), HiveYard.NONE);
        }
        Check.thrown("1 kind(0)", () -> x.kind(0), Check.ELEMENT);
        Check.due("1 moved", () -> x.moved(), 0);
        for (int w = 0; w <= 8; w++) {
            int what = w;
            Check.due("1 count", () -> x.count(what), 0);
        }
        x.row(0, 0, 1);
        HiveYard other = new HiveYard();
        Check.due("1 objects are apart", () -> other.holds(0), HiveYard.NONE);
    }

    private static void promise2Row() {
        HiveYard x = new HiveYard();
        for (int s = 0; s < SORTS; s++) {
            int sort = s;
            Check.due("2 into nothing", x.row(s, s, 24), true);
            Check.due("2 sort", () -> x.holds(sort), sort);
            Check.due("2 places", () -> x.places(sort), 24);
            for (int p = 0; p < 24; p++) {
                int place = p;
                Check.due("2 at first, sort " + sort, () -> x.at(sort, place), sort < NUMBERS ? 0 : HiveYard.NONE);
            }
        }
        x.put(0, 3, 5);
        Check.due("2 over a row", x.row(0, 0, 4), false);
        Check.due("2 the new row is new", () -> x.at(0, 3), 0);
        x.lid(1);
        Check.due("2 over a lid", x.row(1, 7, 0), false);
        Check.due("2 no places", () -> x.places(1), 0);
        Check.due("2 last box", x.row(11, 4, 1), true);
        x.clear(11);
        Check.due("2 over a cleared box", x.row(11, 4, 1), true);
        x.share(10, 11);
        x.row(11, 0, 2);
        Check.due("2 the row that was shared stays", () -> x.holds(10), 4);
    }

    private static void promise2RowThrows() {
        HiveYard x = new HiveYard();
        for (int b : NO_BOX) {
            Check.thrown("2 box ahead of sort", () -> Check.bit(x.row(b, 9, 25)), Check.BOX);
        }
        for (int wrong : new int[] {-1, 8, Integer.MIN_VALUE, Integer.MAX_VALUE}) {
            Check.thrown("2 sort", () -> Check.bit(x.row(0, wrong, 1)), Check.ARGUMENT);
        }
        for (int wrong : new int[] {-1, 25, Integer.MIN_VALUE, Integer.MAX_VALUE}) {
            Check.thrown("2 n", () -> Check.bit(x.row(0, 0, wrong)), Check.ARGUMENT);
        }
        Check.due("2 nothing changed", () -> x.holds(0), HiveYard.NONE);
        Check.due("2 none made", () -> x.count(0), 0);
        for (int made = 0; made < 300; made++) {
            x.row(made % 11, made % SORTS, made % 25);
        }
        Check.due("2 300 made", () -> x.count(0), 300);
        Check.thrown("2 the 301st", () -> Check.bit(x.row(11, 0, 1)), Check.UNSUPPORTED);
        Check.thrown("2 box ahead of 300", () -> Check.bit(x.row(12, 0, 1)), Check.BOX);
        Check.thrown("2 sort ahead of 300", () -> Check.bit(x.row(11, 8, 1)), Check.ARGUMENT);
        Check.thrown("2 n ahead of 300", () -> Check.bit(x.row(11, 0, 25)), Check.ARGUMENT);
        Check.due("2 still nothing", () -> x.holds(11), HiveYard.NONE);
        Check.due("2 still 300", () -> x.count(0), 300);
        x.clear(0);
        Check.thrown("2 300 ever, not at once", () -> Check.bit(x.row(0, 0, 1)), Check.UNSUPPORTED);
    }

    private static void promise3Lid() {
        HiveYard x = new HiveYard();
        Check.due("3 over nothing", x.lid(0), true);
        Check.due("3 holds", () -> x.holds(0), LID);
        Check.due("3 over a lid", x.lid(0), false);
        Check.due("3 holds still", () -> x.holds(0), LID);
        x.row(11, 0, 0);
        Check.due("3 over a row", x.lid(11), true);
        Check.due("3 over that lid", x.lid(11), false);
        x.share(1, 0);
        Check.due("3 over a shared lid", x.lid(1), false);
        for (int b : NO_BOX) {
            Check.thrown("3 box", () -> Check.bit(x.lid(b)), Check.BOX);
        }
    }

    private static void promise4Clear() {
        HiveYard x = new HiveYard();
        Check.due("4 nothing", x.clear(0), false);
        x.lid(0);
        x.row(11, 4, 0);
        x.share(5, 11);
        Check.due("4 a lid", x.clear(0), true);
        Check.due("4 holds nothing, was a lid", () -> x.holds(0), HiveYard.NONE);
        Check.due("4 a row", x.clear(11), true);
        Check.due("4 holds nothing, was a row", () -> x.holds(11), HiveYard.NONE);
        Check.due("4 again", x.clear(11), false);
        Check.due("4 the other box has it still", () -> x.holds(5), 4);
        for (int b : NO_BOX) {
            Check.thrown("4 box", () -> Check.bit(x.clear(b)), Check.BOX);
        }
    }

    private static void promise5Share() {
        HiveYard x = new HiveYard();
        x.row(0, 3, 2);
        Check.due("5 a row", () -> x.share(11, 0), 3);
        Check.due("5 that very row", x.same(0, 11), true);
        x.put(11, 1, 9);
        Check.due("5 what is put in one stands in the other", () -> x.at(0, 1), 9);
        x.lid(1);
        Check.due("5 a lid", () -> x.share(11, 1), LID);
        Check.due("5 holds the lid", () -> x.holds(11), LID);
        Check.due("5 the first has its row still", () -> x.holds(0), 3);
        Check.due("5 nothing", () -> x.share(11, 2), HiveYard.NONE);
        Check.due("5 holds nothing", () -> x.holds(11), HiveYard.NONE);
        Check.due("5 with itself", () -> x.share(0, 0), 3);
        Check.due("5 itself still", () -> x.at(0, 1), 9);
        Check.due("5 makes no row", () -> x.count(0), 1);
        for (int b : NO_BOX) {
            Check.thrown("5 box", () -> x.share(b, 0), Check.BOX);
            Check.thrown("5 from", () -> x.share(0, b), Check.BOX);
        }
        Check.due("5 unchanged", () -> x.holds(0), 3);
    }

    private static void promise6Put() {
        HiveYard x = new HiveYard();
        long[] given = {0x1122334455667788L, -1L, 0x80000000L, 0x8000L, 0x80L, Long.MIN_VALUE, Long.MAX_VALUE, 127L};
        long[] ints = {0x55667788L, -1L, Integer.MIN_VALUE, 0x8000L, 0x80L, 0L, -1L, 127L};
        long[] shorts = {0x7788L, -1L, 0L, Short.MIN_VALUE, 0x80L, 0L, -1L, 127L};
        long[] bytes = {(byte) 0x88, -1L, 0L, 0L, Byte.MIN_VALUE, 0L, -1L, 127L};
        long[][] kept = {ints, given, shorts, bytes};
        for (int s = 0; s < NUMBERS; s++) {
            int sort = s;
            x.row(sort, sort, 3);
            long before = 0;
            for (int k = 0; k < given.length; k++) {
                long v = given[k];
                Check.due("6 what it was, sort " + sort, () -> x.put(sort, 2, v), before);
                before = kept[sort][k];
                Check.due("6 what it became, sort " + sort, () -> x.at(sort, 2), before);
            }
            Check.due("6 its neighbour", () -> x.at(sort, 1), 0);
        }
    }

    private static void promise6PutThrows() {
        HiveYard x = new HiveYard();
        x.row(0, 1, 3);
        x.row(1, 4, 3);
        x.lid(2);
        x.row(4, 0, 0);
        for (int b : NO_BOX) {
            Check.thrown("6 box", () -> x.put(b, 99, 1), Check.BOX);
        }
        for (int b = 1; b < 4; b++) {
            int box = b;
            Check.thrown("6 no row of numbers", () -> x.put(box, 0, 1), Check.STATE);
            Check.thrown("6 state ahead of place", () -> x.put(box, 99, 1), Check.STATE);
        }
        for (int wrong : new int[] {-1, 3, 4, Integer.MIN_VALUE, Integer.MAX_VALUE}) {
            Check.thrown("6 place", () -> x.put(0, wrong, 1), Check.ELEMENT);
        }
        Check.thrown("6 a row without places", () -> x.put(4, 0, 1), Check.ELEMENT);
        Check.due("6 unchanged", () -> x.all(0), 0);
        Check.due("6 no comb put", () -> x.at(1, 0), HiveYard.NONE);
    }

    private static void promise7Lay() {
        boolean[][] taken = {
            {true, true, true, true},
            {false, true, false, true},
            {false, false, true, false},
            {false, false, false, true},
        };
        HiveYard x = new HiveYard();
        int next = 0;
        for (int r = 0; r < 4; r++) {
            int box = r;
            x.row(box, NUMBERS + r, 4);
            for (int k = 0; k < 4; k++) {
                int kind = k;
                int number = taken[r][k] ? next++ : HiveYard.NONE;
                String what = "7 sort " + (NUMBERS + r) + ", kind " + k;
                Check.due(what, () -> x.lay(box, kind, kind), number);
                Check.due(what + " stands", () -> x.at(box, kind), number);
                int made = next;
                Check.due(what + " made", () -> x.count(1), made);
            }
        }
        Check.due("7 kind of what was made", () -> x.kind(5), 3);
        Check.due("7 weight at first", () -> x.feed(0, 0), 0);
        Check.due("7 one that is not taken", () -> x.lay(3, 3, 0), HiveYard.NONE);
        Check.due("7 leaves what stood there", () -> x.at(3, 3), 7);
        Check.due("7 over another", () -> x.lay(3, 3, 3), 8);
        Check.due("7 stands over another", () -> x.at(3, 3), 8);
        Check.due("7 the one before is a comb still", () -> x.kind(7), 3);
    }

    private static void promise7LayThrows() {
        HiveYard x = new HiveYard();
        x.row(0, 4, 2);
        x.row(1, 0, 2);
        x.lid(2);
        x.row(4, 7, 1);
        for (int b : NO_BOX) {
            Check.thrown("7 box ahead of kind", () -> x.lay(b, 9, 9), Check.BOX);
        }
        for (int wrong : new int[] {-1, 4, Integer.MIN_VALUE, Integer.MAX_VALUE}) {
            Check.thrown("7 kind", () -> x.lay(0, 0, wrong), Check.ARGUMENT);
            Check.thrown("7 kind ahead of state", () -> x.lay(1, 9, wrong), Check.ARGUMENT);
        }
        for (int b = 1; b < 4; b++) {
            int box = b;
            Check.thrown("7 no row of combs", () -> x.lay(box, 0, 0), Check.STATE);
            Check.thrown("7 state ahead of place", () -> x.lay(box, 9, 0), Check.STATE);
        }
        for (int wrong : new int[] {-1, 2, Integer.MIN_VALUE, Integer.MAX_VALUE}) {
            Check.thrown("7 place", () -> x.lay(0, wrong, 0), Check.ELEMENT);
        }
        Check.thrown("7 place ahead of not taken", () -> x.lay(4, 1, 0), Check.ELEMENT);
        Check.due("7 none made", () -> x.count(1), 0);
        for (int made = 0; made < 60; made++) {
            int number = made;
            Check.due("7 number", () -> x.lay(0, number % 2, number % 4), number);
        }
        x.lift(0, 1);
        Check.thrown("7 the 61st", () -> x.lay(0, 1, 0), Check.UNSUPPORTED);
        Check.due("7 the 61st is not laid", () -> x.at(0, 1), HiveYard.NONE);
        Check.thrown("7 the 61st, not taken either", () -> x.lay(4, 0, 0), Check.UNSUPPORTED);
        Check.thrown("7 place ahead of 60", () -> x.lay(0, 2, 0), Check.ELEMENT);
        Check.thrown("7 state ahead of 60", () -> x.lay(3, 0, 0), Check.STATE);
        Check.thrown("7 kind ahead of 60", () -> x.lay(0, 0, 4), Check.ARGUMENT);
        Check.due("7 60 made", () -> x.count(1), 60);
        Check.due("7 the last", () -> x.kind(59), 3);
    }

    private static void promise8Lift() {
        HiveYard x = new HiveYard();
        x.row(0, 5, 2);
        x.row(1, 0, 2);
        x.lid(2);
        Check.due("8 none at first", () -> x.lift(0, 0), HiveYard.NONE);
        x.lay(0, 0, 1);
        x.lay(0, 1, 3);
        x.row(4, 4, 2);
        x.pour(0, 4);
        Check.due("8 the one", () -> x.lift(0, 1), 1);
        Check.due("8 no more", () -> x.at(0, 1), HiveYard.NONE);
        Check.due("8 again", () -> x.lift(0, 1), HiveYard.NONE);
        Check.due("8 number 0", () -> x.lift(0, 0), 0);
        Check.due("8 stands elsewhere still", () -> x.at(4, 1), 1);
        Check.due("8 is a comb still", () -> x.kind(1), 3);
        Check.due("8 made stays made", () -> x.count(1), 2);
        for (int b : NO_BOX) {
            Check.thrown("8 box", () -> x.lift(b, 9), Check.BOX);
        }
        for (int b = 1; b < 4; b++) {
            int box = b;
            Check.thrown("8 no row of combs", () -> x.lift(box, 0), Check.STATE);
            Check.thrown("8 state ahead of place", () -> x.lift(box, 9), Check.STATE);
        }
        for (int wrong : new int[] {-1, 2, Integer.MIN_VALUE, Integer.MAX_VALUE}) {
            Check.thrown("8 place", () -> x.lift(4, wrong), Check.ELEMENT);
        }
    }

    private static void promise9MoveOfNumbers() {
        for (int sort = 0; sort < NUMBERS; sort++) {
            HiveYard x = new HiveYard();
            Yards.numbered(x, 0, sort, 4);
            x.row(11, sort, 5);
            Check.due("9 some", () -> x.move(0, 1, 11, 2, 2), 0);
            Check.due("9 how many", () -> x.moved(), 2);
            Yards.stands("9 to", x, 11, 0, 0, 2, 3, 0);
            Yards.stands("9 from", x, 0, 1, 2, 3, 4);
            Check.due("9 none", () -> x.move(0, 0, 11, 0, 0), 0);
            Check.due("9 how many of none", () -> x.moved(), 0);
            Yards.stands("9 to, after none", x, 11, 0, 0, 2, 3, 0);
            Check.due("9 to the ends", () -> x.move(11, 2, 0, 1, 3), 0);
            Yards.stands("9 back", x, 0, 1, 2, 3, 0);
        }
    }

    private static void promise9MoveWithinOneRow() {
        HiveYard x = new HiveYard();
        Yards.numbered(x, 0, 1, 6);
        x.share(1, 0);
        Check.due("9 up", () -> x.move(0, 0, 0, 1, 5), 0);
        Yards.stands("9 up", x, 0, 1, 1, 2, 3, 4, 5);
        Check.due("9 down", () -> x.move(0, 2, 0, 0, 4), 0);
        Yards.stands("9 down", x, 0, 2, 3, 4, 5, 4, 5);
        Check.due("9 up, by a box that shares", () -> x.move(1, 0, 0, 2, 4), 0);
        Yards.stands("9 up, by a box that shares", x, 0, 2, 3, 2, 3, 4, 5);
        Check.due("9 onto itself", () -> x.move(0, 0, 1, 0, 6), 0);
        Yards.stands("9 onto itself", x, 1, 2, 3, 2, 3, 4, 5);
        x.row(2, 5, 3);
        x.lay(2, 0, 1);
        x.lay(2, 1, 3);
        Check.due("9 combs up", () -> x.move(2, 0, 2, 1, 2), 0);
        Yards.stands("9 combs up", x, 2, 0, 0, 1);
    }

    private static void promise9MoveOfCombs() {
        HiveYard x = new HiveYard();
        x.row(0, 4, 4);
        x.row(1, 7, 3);
        x.lay(0, 0, 0);
        x.lay(0, 3, 2);
        x.lay(1, 0, 3);
        Check.due("9 up to any kind", () -> x.move(1, 0, 0, 1, 3), 0);
        Yards.stands("9 places without a comb come too", x, 0, 0, 2, -1, -1);
        Yards.stands("9 it stays where it was", x, 1, 2, -1, -1);
        Check.due("9 back", () -> x.move(0, 1, 1, 1, 2), 0);
        Yards.stands("9 back", x, 1, 2, 2, -1);
        x.row(2, 5, 2);
        Check.due("9 sealed is honey", () -> x.move(1, 0, 2, 0, 2), 0);
        Check.due("9 honey that is sealed goes back", () -> x.move(2, 0, 1, 1, 2), 0);
        x.row(3, 6, 2);
        Check.due("9 empty places go to any row of combs", () -> x.move(0, 2, 3, 0, 2), 0);
        Check.due("9 two", () -> x.moved(), 2);
    }

    private static void promise9MoveWrong() {
        HiveYard x = new HiveYard();
        x.row(0, 4, 5);
        x.lay(0, 0, 1);
        x.lay(0, 2, 3);
        x.lay(0, 3, 2);
        x.lay(0, 4, 1);
        x.row(1, 5, 6);
        x.lay(1, 2, 1);
        x.lay(1, 4, 1);
        x.lay(1, 5, 1);
        Check.due("9 brood into honey", () -> x.move(0, 0, 1, 1, 5), 5);
        Check.due("9 brood into honey, how far", () -> x.moved(), 3);
        Yards.stands("9 brood into honey", x, 1, -1, 0, -1, 1, 5, 6);
        Yards.stands("9 brood into honey, from", x, 0, 0, -1, 1, 2, 3);
        x.row(2, 7, 5);
        Check.due("9 honey into sealed, the first", () -> x.move(0, 0, 2, 0, 5), 5);
        Check.due("9 the first, how far", () -> x.moved(), 0);
        Yards.stands("9 nothing of it", x, 2, -1, -1, -1, -1, -1);
        x.row(3, 6, 5);
        Check.due("9 sealed into brood", () -> x.move(0, 1, 3, 0, 3), 5);
        Check.due("9 sealed into brood, how far", () -> x.moved(), 1);
        Check.due("9 honey into brood, the last", () -> x.move(0, 3, 3, 0, 2), 5);
        Yards.stands("9 honey into brood", x, 3, 2, -1, -1, -1, -1);
        x.row(4, 4, 1);
        x.lay(4, 0, 0);
        for (int b = 1; b < 4; b++) {
            int box = b;
            Check.due("9 a comb into a row of a kind below", () -> x.move(4, 0, box, 0, 1), 5);
            Check.due("9 none of it", () -> x.move(4, 0, box, 0, 0), 0);
        }
    }

    private static void promise9MoveEnds() {
        HiveYard x = new HiveYard();
        x.lid(0);
        for (int s = 0; s < SORTS; s++) {
            x.row(1 + s, s, 3);
        }
        Check.due("9 nothing both", () -> x.move(10, -1, 11, 99, -5), 1);
        Check.due("9 nothing and itself", () -> x.move(10, 0, 10, 0, 0), 1);
        Check.due("9 nothing ahead of lid", () -> x.move(0, 0, 11, 0, 0), 1);
        Check.due("9 nothing ahead of lid, other way", () -> x.move(11, 0, 0, 0, 0), 1);
        Check.due("9 lid and itself", () -> x.move(0, 0, 0, 0, 0), 2);
        for (int s = 0; s < SORTS; s++) {
            int one = 1 + s;
            Check.due("9 to nothing", () -> x.move(one, 0, 10, 0, 1), 1);
            Check.due("9 from nothing", () -> x.move(10, 0, one, 0, 1), 1);
            Check.due("9 to a lid, ahead of outside", () -> x.move(one, -1, 0, 0, 1), 2);
            Check.due("9 from a lid, ahead of outside", () -> x.move(0, 0, one, 9, 1), 2);
            for (int t = 0; t < SORTS; t++) {
                int another = 1 + t;
                boolean unlike = s != t && (s < NUMBERS || t < NUMBERS);
                String what = "9 sort " + s + " to " + t;
                Check.due(what, () -> x.move(one, 0, another, 0, 3), unlike ? 3 : 0);
                Check.due(what + ", outside", () -> x.move(one, 0, another, 0, 4), unlike ? 3 : 4);
            }
        }
        for (int b : NO_BOX) {
            Check.thrown("9 from", () -> x.move(b, 0, 1, 0, 1), Check.BOX);
            Check.thrown("9 to", () -> x.move(1, 0, b, 0, 1), Check.BOX);
        }
        Check.due("9 what throws is no move", () -> x.count(2), 5 + 4 * 8 + 2 * 64);
    }

    private static void promise9MoveOutside() {
        HiveYard x = new HiveYard();
        Yards.numbered(x, 0, 0, 3);
        x.row(1, 0, 5);
        int[][] outside = {
            {-1, 0, 1}, {0, -1, 1}, {0, 0, -1}, {0, 0, 4}, {2, 0, 2}, {0, 3, 3}, {4, 0, 0}, {0, 6, 0}, {4, 0, -1},
            {0, 4, 2}, {-1, 0, 0}, {0, -1, 0}, {Integer.MAX_VALUE, 0, 1}, {0, Integer.MAX_VALUE, 1},
            {1, 0, Integer.MAX_VALUE}, {0, 1, Integer.MAX_VALUE}, {0, 0, Integer.MAX_VALUE},
            {Integer.MAX_VALUE, Integer.MAX_VALUE, Integer.MAX_VALUE}, {Integer.MIN_VALUE, 0, Integer.MIN_VALUE},
            {0, Integer.MIN_VALUE, Integer.MIN_VALUE}, {0, 0, Integer.MIN_VALUE},
        };
        for (int[] o : outside) {
            Check.due("9 outside " + o[0] + " " + o[1] + " " + o[2], () -> x.move(0, o[0], 1, o[1], o[2]), 4);
            Check.due("9 outside moves none", () -> x.moved(), 0);
        }
        Yards.stands("9 outside", x, 1, 0, 0, 0, 0, 0);
        Check.due("9 at both ends", () -> x.move(0, 3, 1, 5, 0), 0);
        Check.due("9 all of it", () -> x.move(0, 0, 1, 2, 3), 0);
        Yards.stands("9 all of it", x, 1, 0, 0, 1, 2, 3);
        x.row(2, 4, 2);
        x.row(3, 7, 2);
        x.lay(2, 0, 0);
        Check.due("9 outside ahead of wrong", () -> x.move(2, 0, 3, 0, 3), 4);
    }

    private static void promise10Pour() {
        HiveYard x = new HiveYard();
        Yards.numbered(x, 0, 0, 4);
        x.row(1, 0, 6);
        x.row(11, 0, 2);
        Check.due("10 into a longer row", () -> x.pour(0, 1), 0);
        Check.due("10 into a longer row, how far", () -> x.moved(), 4);
        Yards.stands("10 into a longer row", x, 1, 1, 2, 3, 4, 0, 0);
        Check.due("10 into a shorter row", () -> x.pour(0, 11), 0);
        Check.due("10 into a shorter row, how far", () -> x.moved(), 2);
        Yards.stands("10 into a shorter row", x, 11, 1, 2);
        Check.due("10 into itself", () -> x.pour(0, 0), 0);
        Check.due("10 into itself, how far", () -> x.moved(), 4);
        x.row(2, 0, 0);
        Check.due("10 into no places", () -> x.pour(0, 2), 0);
        Check.due("10 into no places, how far", () -> x.moved(), 0);
        x.lid(3);
        x.row(4, 1, 4);
        x.row(5, 4, 3);
        x.row(6, 7, 4);
        x.lay(5, 0, 3);
        x.lay(5, 1, 1);
        Check.due("10 nothing", () -> x.pour(0, 9), 1);
        Check.due("10 from nothing to a lid", () -> x.pour(9, 3), 1);
        Check.due("10 a lid", () -> x.pour(3, 0), 2);
        Check.due("10 to a lid", () -> x.pour(0, 3), 2);
        Check.due("10 unlike", () -> x.pour(0, 4), 3);
        Check.due("10 combs into numbers", () -> x.pour(5, 0), 3);
        Check.due("10 wrong", () -> x.pour(5, 6), 5);
        Check.due("10 wrong, how far", () -> x.moved(), 1);
        Yards.stands("10 wrong", x, 6, 0, -1, -1, -1);
        Check.due("10 moves", () -> x.count(2), 11);
        for (int b : NO_BOX) {
            Check.thrown("10 from", () -> x.pour(b, 0), Check.BOX);
            Check.thrown("10 to", () -> x.pour(0, b), Check.BOX);
        }
        Check.due("10 what throws is no move", () -> x.count(2), 11);
    }

    private static void promise11Moved() {
        HiveYard x = new HiveYard();
        Check.due("11 before any", () -> x.moved(), 0);
        x.row(0, 0, 3);
        x.row(1, 0, 3);
        x.move(0, 0, 1, 0, 2);
        Check.due("11 two", () -> x.moved(), 2);
        x.pour(0, 1);
        Check.due("11 the latest, not all", () -> x.moved(), 3);
        Check.thrown("11 a call that throws", () -> x.move(0, 0, 12, 0, 1), Check.BOX);
        Check.due("11 changes nothing", () -> x.moved(), 3);
        x.lid(2);
        x.row(3, 1, 3);
        int[][] ends = {{0, 9, 1}, {0, 2, 2}, {0, 3, 3}};
        for (int[] end : ends) {
            x.pour(0, 1);
            Check.due("11 ends", () -> x.pour(end[0], end[1]), end[2]);
            Check.due("11 none by " + end[2], () -> x.moved(), 0);
        }
        x.pour(0, 1);
        x.move(0, 0, 1, 0, 4);
        Check.due("11 none by 4", () -> x.moved(), 0);
        x.pour(0, 1);
        x.clear(0);
        Check.due("11 stays until the next", () -> x.moved(), 3);
    }

    private static void promise12At() {
        HiveYard x = new HiveYard();
        x.row(0, 1, 2);
        x.put(0, 1, Long.MIN_VALUE);
        Check.due("12 a number", () -> x.at(0, 1), Long.MIN_VALUE);
        Check.due("12 a number at first", () -> x.at(0, 0), 0);
        x.row(11, 6, 3);
        x.lay(11, 2, 2);
        x.lay(11, 0, 2);
        Check.due("12 a comb", () -> x.at(11, 0), 1);
        Check.due("12 number 0", () -> x.at(11, 2), 0);
        Check.due("12 no comb", () -> x.at(11, 1), HiveYard.NONE);
        x.lid(1);
        for (int b : NO_BOX) {
            Check.thrown("12 box", () -> x.at(b, 99), Check.BOX);
        }
        for (int b = 1; b < 3; b++) {
            int box = b;
            Check.thrown("12 no row", () -> x.at(box, 0), Check.STATE);
            Check.thrown("12 state ahead of place", () -> x.at(box, -1), Check.STATE);
        }
        for (int wrong : new int[] {-1, 3, 24, Integer.MIN_VALUE, Integer.MAX_VALUE}) {
            Check.thrown("12 place of numbers", () -> x.at(0, wrong), Check.ELEMENT);
            Check.thrown("12 place of combs", () -> x.at(11, wrong), Check.ELEMENT);
        }
    }

    private static void promise13Holds() {
        HiveYard x = new HiveYard();
        Check.due("13 nothing", () -> x.holds(11), HiveYard.NONE);
        x.lid(11);
        Check.due("13 a lid", () -> x.holds(11), LID);
        for (int s = 0; s < SORTS; s++) {
            int sort = s;
            x.row(0, sort, 0);
            Check.due("13 a row", () -> x.holds(0), sort);
        }
        for (int b : NO_BOX) {
            Check.thrown("13 box", () -> x.holds(b), Check.BOX);
        }
    }

    private static void promise14Places() {
        HiveYard x = new HiveYard();
        for (int k = 0; k <= 24; k++) {
            int n = k;
            x.row(11, n % SORTS, n);
            Check.due("14 places", () -> x.places(11), n);
        }
        x.lid(0);
        Check.thrown("14 a lid", () -> x.places(0), Check.STATE);
        Check.thrown("14 nothing", () -> x.places(1), Check.STATE);
        for (int b : NO_BOX) {
            Check.thrown("14 box", () -> x.places(b), Check.BOX);
        }
    }

    private static void promise15Same() {
        HiveYard x = new HiveYard();
        Check.due("15 nothing twice", x.same(0, 1), false);
        Check.due("15 nothing and itself", x.same(0, 0), false);
        x.row(0, 0, 2);
        x.row(1, 0, 2);
        Check.due("15 a row and itself", x.same(0, 0), true);
        Check.due("15 two rows alike", x.same(0, 1), false);
        x.share(2, 0);
        x.share(11, 2);
        Check.due("15 one row", x.same(0, 11), true);
        Check.due("15 one row, other way", x.same(11, 0), true);
        x.row(0, 0, 2);
        Check.due("15 no more", x.same(0, 11), false);
        Check.due("15 the others still", x.same(2, 11), true);
        x.lid(3);
        x.share(4, 3);
        Check.due("15 one lid is no row", x.same(3, 4), false);
        Check.due("15 a lid and itself", x.same(3, 3), false);
        Check.due("15 a row and a lid", x.same(2, 3), false);
        Check.due("15 a row and nothing", x.same(2, 9), false);
        for (int b : NO_BOX) {
            Check.thrown("15 box", () -> Check.bit(x.same(b, 0)), Check.BOX);
            Check.thrown("15 other", () -> Check.bit(x.same(0, b)), Check.BOX);
        }
    }

    private static void promise16All() {
        HiveYard x = new HiveYard();
        x.row(0, 1, 3);
        Check.due("16 at first", () -> x.all(0), 0);
        x.put(0, 0, Long.MAX_VALUE);
        x.put(0, 2, 2);
        Check.due("16 it wraps", () -> x.all(0), Long.MIN_VALUE + 1);
        x.row(1, 0, 2);
        x.put(1, 0, Integer.MAX_VALUE);
        x.put(1, 1, Integer.MAX_VALUE);
        Check.due("16 64 bits of ints", () -> x.all(1), 2L * Integer.MAX_VALUE);
        x.row(2, 3, 2);
        x.put(2, 0, -3);
        x.put(2, 1, -128);
        Check.due("16 signs", () -> x.all(2), -131);
        x.row(11, 4, 4);
        Check.due("16 no combs", () -> x.all(11), 0);
        x.lay(11, 0, 0);
        x.lay(11, 1, 1);
        Check.due("16 weights at first", () -> x.all(11), 0);
        x.feed(0, Integer.MAX_VALUE);
        x.feed(1, -7);
        x.move(11, 0, 11, 3, 1);
        Check.due("16 a comb that stands twice", () -> x.all(11), 2L * Integer.MAX_VALUE - 7);
        x.lift(11, 0);
        Check.due("16 lifted", () -> x.all(11), Integer.MAX_VALUE - 7L);
        x.row(3, 6, 0);
        Check.due("16 no places", () -> x.all(3), 0);
        x.lid(4);
        Check.thrown("16 a lid", () -> x.all(4), Check.STATE);
        Check.thrown("16 nothing", () -> x.all(5), Check.STATE);
        for (int b : NO_BOX) {
            Check.thrown("16 box", () -> x.all(b), Check.BOX);
        }
    }

    private static void promise17Feed() {
        HiveYard x = new HiveYard();
        Check.thrown("17 before any", () -> x.feed(0, 1), Check.ELEMENT);
        x.row(0, 4, 2);
        x.lay(0, 0, 2);
        for (int wrong : NO_COMB) {
            Check.thrown("17 comb", () -> x.feed(wrong, 1), Check.ELEMENT);
        }
        x.lay(0, 1, 3);
        Check.due("17 weight at first", () -> x.feed(1, 0), 0);
        Check.due("17 grows", () -> x.feed(0, 5), 5);
        Check.due("17 grows again", () -> x.feed(0, -8), -3);
        Check.due("17 the other one does not", () -> x.feed(1, 0), 0);
        Check.due("17 the most", () -> x.feed(1, Integer.MAX_VALUE), Integer.MAX_VALUE);
        Check.due("17 it wraps", () -> x.feed(1, 1), Integer.MIN_VALUE);
        x.lift(0, 0);
        Check.due("17 a comb that stands nowhere", () -> x.feed(0, 1), -2);
    }

    private static void promise18Kind() {
        HiveYard x = new HiveYard();
        Check.thrown("18 before any", () -> x.kind(0), Check.ELEMENT);
        x.row(0, 4, 1);
        x.lay(0, 0, 3);
        for (int wrong : NO_COMB) {
            Check.thrown("18 comb", () -> x.kind(wrong), Check.ELEMENT);
        }
        for (int k = 0; k < 4; k++) {
            int kind = k;
            int number = 1 + k;
            x.lay(0, 0, kind);
            Check.due("18 kind", () -> x.kind(number), kind);
        }
        x.clear(0);
        Check.due("18 a comb that stands nowhere", () -> x.kind(0), 3);
    }

    private static void counted(String what, HiveYard x, int... want) {
        for (int w = 0; w < want.length; w++) {
            int number = w;
            Check.due(what + ": count " + w, () -> x.count(number), want[w]);
        }
    }

    private static void promise19Count() {
        HiveYard x = new HiveYard();
        x.row(0, 4, 3);
        x.row(1, 7, 3);
        x.row(2, 0, 3);
        x.lid(3);
        x.share(4, 0);
        counted("19 rows", x, 3, 0, 0, 0, 0, 0, 0, 0, 0);
        x.lay(0, 0, 3);
        x.lay(0, 1, 0);
        x.lay(1, 1, 0);
        counted("19 combs", x, 3, 2, 0, 0, 0, 0, 0, 0, 0);
        x.pour(0, 9);
        x.pour(0, 3);
        x.pour(3, 0);
        for (int k = 0; k < 3; k++) {
            x.pour(0, 2);
        }
        for (int k = 0; k < 4; k++) {
            x.move(0, 0, 1, 0, 4);
        }
        counted("19 stopped", x, 3, 2, 10, 1, 2, 3, 4, 0, 0);
        for (int k = 0; k < 5; k++) {
            x.pour(0, 1);
        }
        counted("19 wrong", x, 3, 2, 15, 1, 2, 3, 4, 5, 5);
        x.pour(2, 2);
        x.pour(2, 2);
        counted("19 whole", x, 3, 2, 17, 1, 2, 3, 4, 5, 11);
        Check.thrown("19 a call that throws", () -> x.pour(0, 12), Check.BOX);
        Check.thrown("19 a row that throws", () -> Check.bit(x.row(0, 8, 1)), Check.ARGUMENT);
        Check.thrown("19 a comb that throws", () -> x.lay(0, 3, 1), Check.ELEMENT);
        counted("19 what throws changes nothing", x, 3, 2, 17, 1, 2, 3, 4, 5, 11);
        for (int other : new int[] {-1, 9, 10, Integer.MIN_VALUE, Integer.MAX_VALUE}) {
            Check.due("19 another", () -> x.count(other), HiveYard.NONE);
        }
    }
}
