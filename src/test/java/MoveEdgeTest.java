/** The edges of a MOVE that the Terms and promises 9 to 11 name, one method for each sentence. */
public final class MoveEdgeTest {
    private static final int NONE = HiveYard.NONE;
    private static final int WHOLE = 0;
    private static final int BY_NOTHING = 1;
    private static final int BY_LID = 2;
    private static final int BY_UNLIKE = 3;
    private static final int BY_OUTSIDE = 4;
    private static final int BY_WRONG = 5;
    private static final int[] SORTS = Yards.range(0, 7);
    private static final int[][] RANGES = {{0, 0, 1}, {0, 0, 0}, {-1, 0, 1}, {0, 0, -1}, {9, 9, 9}};

    public static void main(String[] args) {
        endsByNothing();
        endsByALid();
        endsByUnlike();
        outsideBelow0();
        outsideBeyondItsRow();
        outsideAsTheSumsAre();
        outsideAheadOfWrong();
        wrongStopsAtTheFirst();
        wrongLeavesAllBehindIt();
        wrongOnlyAmongN();
        wrongByTheRowToWhichItGoes();
        placesWithoutACombAreMoved();
        wholeElse();
        wholeOfNone();
        asItWasAheadWithinOneRow();
        asItWasAheadThroughAnotherBox();
        combsAsTheyWereAhead();
        staysWhereItCameFrom();
        movedNoneBy1To4();
        pourTheLesserOfBoth();
        pourOf0WithoutARow();
        pourLooksNoFarther();
        pourWithinOneRow();
        movedOfTheLatest();
        moved0BeforeAny();
        Check.end();
    }

    /** A MOVE that moves none, and leaves both boxes as they are. */
    private static void stopped(String what, HiveYard x, int[] move, int want) {
        int counted = x.count(2 + want);
        Check.due(what, () -> x.move(move[0], move[1], move[2], move[3], move[4]), want);
        Check.due(what + ", moved", () -> x.moved(), 0);
        Check.due(what + ", counted", () -> x.count(2 + want), counted + 1);
    }

    private static void endsByNothing() {
        Check.sentence("Terms", "1 NOTHING: one of both boxes holds nothing");
        for (int[] r : RANGES) {
            for (int box : Yards.range(0, 11)) {
                HiveYard x = Yards.ordinary();
                String what = "box " + box + " range " + r[0] + " " + r[1] + " " + r[2];
                stopped("to it, " + what, x, new int[] {box, r[0], Yards.EMPTY, r[1], r[2]}, BY_NOTHING);
                stopped("from it, " + what, x, new int[] {Yards.EMPTY, r[0], box, r[1], r[2]}, BY_NOTHING);
            }
        }
    }

    private static void endsByALid() {
        Check.sentence("Terms", "2 LID: one of both holds a lid");
        for (int[] r : RANGES) {
            for (int box : Yards.range(0, 11)) {
                HiveYard x = Yards.ordinary();
                int want = box == Yards.EMPTY ? BY_NOTHING : BY_LID;
                String what = "box " + box + " range " + r[0] + " " + r[1] + " " + r[2];
                stopped("to it, " + what, x, new int[] {box, r[0], Yards.LIDDED, r[1], r[2]}, want);
                stopped("from it, " + what, x, new int[] {Yards.LIDDED, r[0], box, r[1], r[2]}, want);
            }
        }
    }

    private static void endsByUnlike() {
        Check.sentence("Terms", "3 UNLIKE: rows of numbers of unlike SORTS, or one of numbers and one of combs");
        for (int from : SORTS) {
            for (int to : SORTS) {
                boolean unlike = from != to && (from < 4 || to < 4);
                for (int[] r : RANGES) {
                    HiveYard x = new HiveYard();
                    x.row(0, from, 2);
                    x.row(1, to, 2);
                    int[] move = {0, r[0], 1, r[1], r[2]};
                    String what = "sort " + from + " to " + to + " range " + r[0] + " " + r[1] + " " + r[2];
                    if (unlike) {
                        stopped(what, x, move, BY_UNLIKE);
                    } else if (r[0] == 0 && r[2] >= 0) {
                        Check.due(what, () -> x.move(0, r[0], 1, r[1], r[2]), WHOLE);
                    } else {
                        stopped(what, x, move, BY_OUTSIDE);
                    }
                }
            }
        }
        HiveYard x = new HiveYard();
        x.row(0, 0, 0);
        x.row(1, 3, 0);
        stopped("rows of no places", x, new int[] {0, 0, 1, 0, 0}, BY_UNLIKE);
    }

    /** Each of the moves from a row of 3 to one of 5 is outside, for numbers and for combs, and moves none. */
    private static void outside(int[][] moves) {
        for (int sort : SORTS) {
            HiveYard x = new HiveYard();
            if (sort < 4) {
                Yards.numbered(x, 0, sort, 3);
            } else {
                Yards.combed(x, 0, sort, sort - 4, NONE, sort - 4);
            }
            x.row(1, sort, 5);
            for (int[] m : moves) {
                stopped("sort " + sort + ", i j n " + m[0] + " " + m[1] + " " + m[2], x,
                        new int[] {0, m[0], 1, m[1], m[2]}, BY_OUTSIDE);
            }
            long first = sort < 4 ? 0 : NONE;
            Yards.stands("sort " + sort + ", to", x, 1, first, first, first, first, first);
        }
    }

    private static void outsideBelow0() {
        Check.sentence("Terms", "4 OUTSIDE: i, j or n is below 0");
        int least = Yards.LEAST;
        outside(new int[][] {
            {-1, 0, 1}, {0, -1, 1}, {0, 0, -1}, {-1, 0, 0}, {0, -1, 0}, {-1, -1, -1}, {3, 5, -1}, {1, 1, -1},
            {least, 0, 1}, {0, least, 1}, {0, 0, least}, {least, 0, least}, {0, least, least}, {least, least, least},
        });
    }

    private static void outsideBeyondItsRow() {
        Check.sentence("Terms", "or i + n or j + n (the sums as they are, whatever their size) is more than the PLACES of its row");
        outside(new int[][] {
            {0, 0, 4}, {1, 0, 3}, {2, 0, 2}, {3, 0, 1}, {4, 0, 0}, {0, 3, 3}, {0, 4, 2}, {0, 5, 1}, {0, 6, 0},
            {3, 5, 1}, {4, 6, 0}, {24, 0, 0}, {0, 24, 0}, {0, 0, 24},
        });
        HiveYard x = new HiveYard();
        Yards.numbered(x, 0, 0, 3);
        x.row(1, 0, 5);
        Check.due("i + n is the places", () -> x.move(0, 1, 1, 0, 2), WHOLE);
        Check.due("j + n is the places", () -> x.move(0, 0, 1, 4, 1), WHOLE);
        Check.due("both are the places", () -> x.move(0, 0, 1, 2, 3), WHOLE);
        Yards.stands("to", x, 1, 2, 3, 1, 2, 3);
        Check.due("behind the last places, none", () -> x.move(0, 3, 1, 5, 0), WHOLE);
        stopped("farther behind, none", x, new int[] {0, 4, 1, 5, 0}, BY_OUTSIDE);
        x.row(2, 0, 0);
        Check.due("rows of no places, none", () -> x.move(2, 0, 2, 0, 0), WHOLE);
        stopped("rows of no places, one", x, new int[] {2, 0, 2, 0, 1}, BY_OUTSIDE);
    }

    private static void outsideAsTheSumsAre() {
        Check.sentence("Terms", "(the sums as they are, whatever their size)");
        int most = Yards.MOST;
        outside(new int[][] {
            {most, 0, 1}, {0, most, 1}, {1, 0, most}, {0, 1, most}, {1, 1, most}, {most, 0, 0}, {0, most, 0},
            {0, 0, most}, {most, most, most}, {most, 0, most}, {0, most, most}, {most, most, 1}, {most, most, 2},
            {2, 2, most - 1}, {3, 5, most}, {most - 1, 0, 2}, {0, most - 1, 2}, {most - 1, most - 1, 3},
        });
    }

    private static void outsideAheadOfWrong() {
        Check.sentence("Terms", "ENDS by the first of these that is so");
        HiveYard x = new HiveYard();
        Yards.combed(x, 0, 4, 1, 0);
        x.row(1, 5, 2);
        stopped("the first would go, the second is wrong", x, new int[] {0, 0, 1, 0, 3}, BY_OUTSIDE);
        stopped("the row to which it goes ends", x, new int[] {0, 0, 1, 1, 2}, BY_OUTSIDE);
        Yards.stands("nothing came", x, 1, NONE, NONE);
        x.row(2, 0, 2);
        stopped("unlike ahead of outside", x, new int[] {0, 0, 2, 0, 3}, BY_UNLIKE);
        x.lid(1);
        stopped("a lid ahead of outside", x, new int[] {0, 0, 1, 0, 3}, BY_LID);
        stopped("nothing ahead of a lid", x, new int[] {1, 0, 9, 0, 0}, BY_NOTHING);
        stopped("nothing ahead of a lid, the other way", x, new int[] {9, 0, 1, 0, 0}, BY_NOTHING);
    }

    private static void wrongStopsAtTheFirst() {
        Check.sentence("Terms", "5 WRONG: one of the combs is none that the row to which it goes takes: all ahead of it are moved");
        for (int wrong : Yards.range(0, 5)) {
            HiveYard x = new HiveYard();
            int[] kinds = {1, 3, 1, 3, 1, 3};
            kinds[wrong] = 2;
            Yards.combed(x, 0, 4, kinds);
            x.row(1, 5, 8);
            Check.due("wrong at " + wrong, () -> x.move(0, 0, 1, 1, 6), BY_WRONG);
            Check.due("wrong at " + wrong + ", moved", () -> x.moved(), wrong);
            for (int place : Yards.range(0, 7)) {
                boolean came = place >= 1 && place < 1 + wrong;
                Check.due("wrong at " + wrong + ", place " + place, () -> x.at(1, place), came ? place - 1 : NONE);
            }
        }
    }

    private static void wrongLeavesAllBehindIt() {
        Check.sentence("Terms", "it and all behind it are not");
        HiveYard x = new HiveYard();
        Yards.combed(x, 0, 4, 1, 2, 1, NONE, 2, 3);
        Yards.combed(x, 1, 5, 3, 3, 3, 3, 3, 3);
        Check.due("ends", () -> x.pour(0, 1), BY_WRONG);
        Yards.stands("to", x, 1, 0, 6, 7, 8, 9, 10);
        Yards.stands("from", x, 0, 0, 1, 2, NONE, 3, 4);
        Check.due("moved", () -> x.moved(), 1);
        Check.due("places moved by all", () -> x.count(8), 1);
    }

    private static void wrongOnlyAmongN() {
        Check.sentence("Terms", "0 else: all n are moved");
        HiveYard x = new HiveYard();
        Yards.combed(x, 0, 4, 0, 3, 3, 0);
        x.row(1, 7, 4);
        Check.due("wrong ones ahead and behind are not moved", () -> x.move(0, 1, 1, 0, 2), WHOLE);
        Yards.stands("to", x, 1, 1, 2, NONE, NONE);
        Check.due("none of a wrong one", () -> x.move(0, 0, 1, 0, 0), WHOLE);
        Check.due("with the one behind", () -> x.move(0, 1, 1, 0, 3), BY_WRONG);
        Check.due("two came", () -> x.moved(), 2);
        Check.due("with the one ahead", () -> x.move(0, 0, 1, 0, 3), BY_WRONG);
        Check.due("none came", () -> x.moved(), 0);
    }

    private static void wrongByTheRowToWhichItGoes() {
        Check.sentence("Terms", "one of the combs is none that the row to which it goes takes");
        HiveYard x = new HiveYard();
        Yards.combed(x, 0, 5, 3, 3);
        x.row(1, 7, 2);
        x.row(2, 6, 2);
        x.row(3, 4, 2);
        Check.due("sealed ones out of a row of honey", () -> x.pour(0, 1), WHOLE);
        Check.due("back again", () -> x.pour(1, 0), WHOLE);
        Check.due("to a row of any kind", () -> x.pour(1, 3), WHOLE);
        Check.due("from a row of any kind", () -> x.pour(3, 1), WHOLE);
        Check.due("to a row of brood", () -> x.pour(0, 2), BY_WRONG);
        x.lay(0, 1, 1);
        Check.due("honey in a row of honey", () -> x.pour(0, 1), BY_WRONG);
        Check.due("the sealed one ahead of it came", () -> x.moved(), 1);
    }

    private static void placesWithoutACombAreMoved() {
        Check.sentence("Terms", "(places without a comb are always moved)");
        for (int from : Yards.range(4, 7)) {
            for (int to : Yards.range(4, 7)) {
                HiveYard x = new HiveYard();
                x.row(0, from, 3);
                Yards.combed(x, 1, to, to - 4, to - 4, to - 4);
                Check.due("sort " + from + " to " + to, () -> x.move(0, 0, 1, 1, 2), WHOLE);
                Check.due("moved, sort " + from + " to " + to, () -> x.moved(), 2);
                Yards.stands("sort " + from + " to " + to, x, 1, 0, NONE, NONE);
            }
        }
        HiveYard x = new HiveYard();
        Yards.combed(x, 0, 4, NONE, NONE, 2, NONE);
        Yards.combed(x, 1, 5, 1, 1, 1, 1);
        Check.due("ahead of a wrong one", () -> x.pour(0, 1), BY_WRONG);
        Check.due("ahead of a wrong one, moved", () -> x.moved(), 2);
        Yards.stands("those behind the wrong one are not", x, 1, NONE, NONE, 3, 4);
    }

    private static void wholeElse() {
        Check.sentence("Terms", "0 else: all n are moved");
        for (int sort : SORTS) {
            HiveYard x = new HiveYard();
            if (sort < 4) {
                Yards.numbered(x, 0, sort, 24);
            } else {
                x.row(0, sort, 24);
                for (int place : Yards.range(0, 23)) {
                    x.lay(0, place, sort - 4);
                }
            }
            x.row(1, sort, 24);
            Check.due("24 of sort " + sort, () -> x.move(0, 0, 1, 0, 24), WHOLE);
            Check.due("moved, sort " + sort, () -> x.moved(), 24);
            for (int place : Yards.range(0, 23)) {
                Check.due("sort " + sort + " place " + place, () -> x.at(1, place), sort < 4 ? place + 1 : place);
            }
        }
    }

    private static void wholeOfNone() {
        Check.sentence("Terms", "MOVED is how many places were moved");
        HiveYard x = new HiveYard();
        Yards.numbered(x, 0, 2, 3);
        x.row(1, 2, 3);
        x.pour(0, 1);
        Check.due("none", () -> x.move(0, 1, 1, 0, 0), WHOLE);
        Check.due("none, moved", () -> x.moved(), 0);
        Yards.stands("as it was", x, 1, 1, 2, 3);
        Check.due("is a MOVE too", () -> x.count(2), 2);
        Check.due("one of three", () -> x.move(0, 2, 1, 0, 1), WHOLE);
        Check.due("one of three, moved", () -> x.moved(), 1);
        Check.due("by all", () -> x.count(8), 4);
    }

    private static void asItWasAheadWithinOneRow() {
        Check.sentence("Terms", "What is moved comes as it was ahead of the MOVE, also within one row");
        for (int i : Yards.range(0, 4)) {
            for (int j : Yards.range(0, 4)) {
                for (int n : Yards.range(0, 4 - Math.max(i, j))) {
                    withinOneRow(i, j, n);
                }
            }
        }
        HiveYard x = new HiveYard();
        Yards.numbered(x, 0, 0, 24);
        Check.due("23 up", () -> x.move(0, 0, 0, 1, 23), WHOLE);
        for (int place : Yards.range(1, 23)) {
            Check.due("23 up, place " + place, () -> x.at(0, place), place);
        }
        Check.due("23 down", () -> x.move(0, 1, 0, 0, 23), WHOLE);
        for (int place : Yards.range(0, 22)) {
            Check.due("23 down, place " + place, () -> x.at(0, place), place + 1);
        }
    }

    private static void withinOneRow(int i, int j, int n) {
        for (int sort : Yards.range(0, 3)) {
            HiveYard x = new HiveYard();
            Yards.numbered(x, 0, sort, 4);
            String what = "sort " + sort + ", i j n " + i + " " + j + " " + n;
            Check.due(what, () -> x.move(0, i, 0, j, n), WHOLE);
            Check.due(what + ", moved", () -> x.moved(), n);
            for (int place : Yards.range(0, 3)) {
                boolean reached = place >= j && place < j + n;
                int due = reached ? place - j + i + 1 : place + 1;
                Check.due(what + ", place " + place, () -> x.at(0, place), due);
            }
        }
    }

    private static void asItWasAheadThroughAnotherBox() {
        Check.sentence("Terms", "to place j of another one (or the same one) on");
        HiveYard x = new HiveYard();
        Yards.numbered(x, 0, 1, 4);
        x.share(1, 0);
        Check.due("up", () -> x.move(0, 0, 1, 1, 3), WHOLE);
        Yards.stands("up", x, 0, 1, 1, 2, 3);
        Check.due("down", () -> x.move(1, 1, 0, 0, 3), WHOLE);
        Yards.stands("down", x, 1, 1, 2, 3, 3);
        Check.due("onto itself", () -> x.pour(0, 1), WHOLE);
        Check.due("onto itself, moved", () -> x.moved(), 4);
        Yards.stands("onto itself", x, 0, 1, 2, 3, 3);
    }

    private static void combsAsTheyWereAhead() {
        Check.sentence("Terms", "What is moved comes as it was ahead of the MOVE, also within one row");
        HiveYard x = new HiveYard();
        Yards.combed(x, 0, 4, 0, 1, NONE, 3);
        Check.due("up", () -> x.move(0, 0, 0, 1, 3), WHOLE);
        Yards.stands("up", x, 0, 0, 0, 1, NONE);
        Check.due("down", () -> x.move(0, 1, 0, 0, 3), WHOLE);
        Yards.stands("down", x, 0, 0, 1, NONE, NONE);
        Check.due("none was made", () -> x.count(1), 3);
    }

    private static void staysWhereItCameFrom() {
        Check.sentence("Terms", "where it came from it stays, but for places to which something else goes");
        HiveYard x = new HiveYard();
        Yards.numbered(x, 0, 3, 4);
        x.row(1, 3, 4);
        x.pour(0, 1);
        Yards.stands("numbers, another row", x, 0, 1, 2, 3, 4);
        x.move(0, 0, 0, 2, 2);
        Yards.stands("numbers, one row, apart", x, 0, 1, 2, 1, 2);
        Yards.combed(x, 2, 5, 1, 3);
        x.row(3, 5, 2);
        x.pour(2, 3);
        Yards.stands("combs, another row", x, 2, 0, 1);
        x.put(1, 0, 9);
        Yards.stands("what is put later does not come", x, 0, 1, 2, 1, 2);
        x.lift(3, 0);
        Yards.stands("what is lifted later stays", x, 2, 0, 1);
    }

    private static void movedNoneBy1To4() {
        Check.sentence("Terms", "(none by 1 to 4)");
        int[][] moves = {
            {Yards.INTS, 0, Yards.EMPTY, 0, 1, BY_NOTHING},
            {Yards.INTS, 0, Yards.LIDDED, 0, 1, BY_LID},
            {Yards.INTS, 0, Yards.ANY, 0, 1, BY_UNLIKE},
            {Yards.INTS, 0, Yards.SHARED_INTS, 1, 2, BY_OUTSIDE},
        };
        for (int[] m : moves) {
            HiveYard x = Yards.ordinary();
            Check.due("two came ahead of it", () -> x.moved(), 2);
            stopped("ends by " + m[5], x, m, m[5]);
            Check.due("by all, ends by " + m[5], () -> x.count(8), 2);
            Yards.stands("ends by " + m[5], x, Yards.INTS, 1, 2);
        }
    }

    private static void pourTheLesserOfBoth() {
        Check.sentence("Promise 10", "of as many places as both rows have, the lesser of both numbers");
        int[] lengths = {0, 1, 3, 23, 24};
        for (int from : lengths) {
            for (int to : lengths) {
                HiveYard x = new HiveYard();
                Yards.numbered(x, 0, 0, from);
                x.row(1, 0, to);
                int lesser = from < to ? from : to;
                Check.due(from + " into " + to, () -> x.pour(0, 1), WHOLE);
                Check.due(from + " into " + to + ", moved", () -> x.moved(), lesser);
                for (int place : Yards.range(0, to - 1)) {
                    Check.due(from + " into " + to + ", place " + place, () -> x.at(1, place),
                            place < lesser ? place + 1 : 0);
                }
            }
        }
    }

    private static void pourOf0WithoutARow() {
        Check.sentence("Promise 10", "(0 when one of both boxes holds no row)");
        for (int box : Yards.range(0, 11)) {
            HiveYard x = Yards.ordinary();
            int byLid = box == Yards.EMPTY ? BY_NOTHING : BY_LID;
            Check.due("to nothing, from " + box, () -> x.pour(box, Yards.EMPTY), BY_NOTHING);
            Check.due("from nothing, to " + box, () -> x.pour(Yards.EMPTY, box), BY_NOTHING);
            Check.due("to a lid, from " + box, () -> x.pour(box, Yards.LIDDED), byLid);
            Check.due("from a lid, to " + box, () -> x.pour(Yards.LIDDED, box), byLid);
            Check.due("moved", () -> x.moved(), 0);
            Check.due("moves", () -> x.count(2), 6);
        }
        HiveYard x = new HiveYard();
        x.row(0, 0, 2);
        x.row(1, 4, 2);
        x.row(2, 1, 2);
        Check.due("numbers into combs", () -> x.pour(0, 1), BY_UNLIKE);
        Check.due("combs into numbers", () -> x.pour(1, 0), BY_UNLIKE);
        Check.due("ints into longs", () -> x.pour(0, 2), BY_UNLIKE);
    }

    private static void pourLooksNoFarther() {
        Check.sentence("Promise 10", "A MOVE from place 0 to place 0");
        HiveYard x = new HiveYard();
        Yards.combed(x, 0, 4, 1, 3, 2);
        x.row(1, 5, 2);
        x.row(2, 5, 3);
        Check.due("a wrong one behind the lesser number", () -> x.pour(0, 1), WHOLE);
        Yards.stands("a wrong one behind", x, 1, 0, 1);
        Check.due("a wrong one at its last place", () -> x.pour(0, 2), BY_WRONG);
        Check.due("a wrong one at its last place, moved", () -> x.moved(), 2);
        Yards.stands("a wrong one at its last place", x, 2, 0, 1, NONE);
        x.row(3, 6, 3);
        Check.due("a wrong one at its first place", () -> x.pour(0, 3), BY_WRONG);
        Check.due("a wrong one at its first place, moved", () -> x.moved(), 0);
    }

    private static void pourWithinOneRow() {
        Check.sentence("Promise 10", "A MOVE from place 0 to place 0 of as many places as both rows have");
        for (int sort : SORTS) {
            HiveYard x = new HiveYard();
            x.row(0, sort, 24);
            Check.due("into itself, sort " + sort, () -> x.pour(0, 0), WHOLE);
            Check.due("into itself, sort " + sort + ", moved", () -> x.moved(), 24);
        }
    }

    private static void movedOfTheLatest() {
        Check.sentence("Promise 11", "MOVED of the latest MOVE");
        HiveYard x = Yards.ordinary();
        Check.due("two", () -> x.moved(), 2);
        Check.due("told again", () -> x.moved(), 2);
        x.row(Yards.INTS, 0, 24);
        x.lid(Yards.INTS);
        x.clear(Yards.INTS);
        x.lay(Yards.ANY, 0, 0);
        x.lift(Yards.ANY, 0);
        Check.due("no MOVE since", () -> x.moved(), 2);
        Check.thrown("one that throws", () -> x.move(0, 0, 12, 0, 0), Check.BOX);
        Check.thrown("a pour that throws", () -> x.pour(-1, 0), Check.BOX);
        Check.due("what throws is none", () -> x.moved(), 2);
        x.move(Yards.SHARED_INTS, 0, Yards.SHARED_INTS, 1, 1);
        Check.due("one", () -> x.moved(), 1);
        x.move(Yards.ANY, 0, Yards.SEALED, 0, 2);
        Check.due("one ahead of a wrong one", () -> x.moved(), 1);
        x.pour(Yards.SHARED_INTS, Yards.NO_PLACES);
        Check.due("none", () -> x.moved(), 0);
    }

    private static void moved0BeforeAny() {
        Check.sentence("Promise 11", "0 before any");
        HiveYard x = new HiveYard();
        Check.due("at first", () -> x.moved(), 0);
        Yards.numbered(x, 0, 0, 3);
        x.share(1, 0);
        Check.due("after calls that are no MOVE", () -> x.moved(), 0);
        Check.thrown("a MOVE that throws", () -> x.pour(0, 12), Check.BOX);
        Check.due("after it", () -> x.moved(), 0);
    }
}
