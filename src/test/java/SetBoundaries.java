/** Boundary cases of SETS and their POINTS: promises 1 to 3, 10 and 11, and what the terms say of them. */
final class SetBoundaries {
    private static final long NO = -1000000000000L;

    private SetBoundaries() {
    }

    static void all(Sentences s) {
        s.test(0, "An object is used for at most 512 calls after it has been made", SetBoundaries::lastCall);
        s.test(0, "SETS 0 .. 5 hold POINTS", SetBoundaries::sets);
        s.test(0, "each has a PLACE (-12 .. 12", SetBoundaries::places);
        s.test(0, "no two of a SET have the same one", SetBoundaries::onePlaceInTwoSets);
        s.test(0, "a VALUE (-60 .. 60)", SetBoundaries::values);
        s.test(0, "a WEIGHT (1 .. 4)", SetBoundaries::weights);
        s.test(0, "12 POINTS at most", SetBoundaries::fullSet);
        s.test(0, "they are numbered by their PLACES, from 0", SetBoundaries::numberedByPlaces);
        s.test(1, "Empty SETS", SetBoundaries::newSets);
        s.test(1, "no FITS", SetBoundaries::newFits);
        s.test(1, "all SHEETS missing", SetBoundaries::newSheets);
        s.test(1, "LevelFits()", SetBoundaries::newObjectsShareNothing);
        s.test(2, "A POINT comes to a SET: how many it has.", SetBoundaries::pointCounts);
        s.test(2, "STATUS 1", SetBoundaries::pointOfWrongNumbers);
        s.test(2, "STATUS 1, 2", SetBoundaries::pointForFullSet);
        s.test(2, "STATUS 1, 2, 3 (one has this PLACE).", SetBoundaries::pointOfTakenPlace);
        s.test(2, "Where several hold, the lowest.", SetBoundaries::pointRefusedTwice);
        s.test(3, "POINT i of a SET goes: how many it has.", SetBoundaries::takeCounts);
        s.test(3, "STATUS 1.", SetBoundaries::takeOfWrongNumbers);
        s.test(10, "Of a POINT of a SET: 0 PLACE, 1 VALUE, 2 WEIGHT.", SetBoundaries::toldAtTheEdges);
        s.test(10, "NO: no such.", SetBoundaries::toldOfNone);
        s.test(11, "How many: 0 FITS", SetBoundaries::countFits);
        s.test(11, "1 THE TRACE's bodies", SetBoundaries::countTrace);
        s.test(11, "2 + s the POINTS of SET s", SetBoundaries::countPoints);
        s.test(11, "-1: another.", SetBoundaries::countOfAnother);
    }

    private static void fill(Run x, int set) {
        x.row(set, 0, 0, 1, 2, 3, 4, 5, 6, 7, 8, 9, 10, 11);
    }

    // ---- terms

    private static void lastCall(Run x) {
        x.row(0, 0, 0, 0, 3);
        for (int i = 0; i < 254; i++) {
            x.call("line", 0, 2);
            x.call("drop");
        }
        // 3 and 508 calls stand behind it: this is the last one that is promised.
        x.tells(0, "line", 0, 1);
        Run y = x.another();
        y.row(0, 0, 0, 0, 3);
        y.call("line", 0, 1);
        for (int i = 0; i < 507; i++) {
            y.tells(7, "turns", 0);
        }
        y.tells(3, "level", 0, 0);
    }

    private static void sets(Run x) {
        for (int set = 0; set < 6; set++) {
            x.done(1, "point", set, set, 10 + set, 1);
            x.tells(10 + set, "pointTold", set, 0, 1);
        }
        x.cells(0, 1, 9, 0, 1);
        for (int set : Run.beyond(0, 5)) {
            x.refused(1, "point", set, 0, 0, 1);
            x.refused(1, "take", set, 0);
            x.refused(1, "fit", set, 0, 0, 0, 1);
            x.refused(1, "line", set, 0);
            x.refused(1, "even", set);
            x.refused(1, "shorts", set, 0, 0);
            x.refused(1, "pieces", set, 0, 1, 1);
            x.refused(1, "points", set, 0, 1, 0);
            x.tells(NO, "pointTold", set, 0, 0);
        }
        x.tells(0, "count", 0);
    }

    private static void places(Run x) {
        x.done(1, "point", 0, -12, 1, 1);
        x.done(2, "point", 0, 12, 2, 1);
        x.tells(-12, "pointTold", 0, 0, 0);
        x.tells(12, "pointTold", 0, 1, 0);
        for (int place : Run.beyond(-12, 12)) {
            x.refused(1, "point", 0, place, 0, 1);
        }
        x.tells(2, "count", 2);
    }

    private static void onePlaceInTwoSets(Run x) {
        for (int set = 0; set < 6; set++) {
            x.done(1, "point", set, 7, set, 1);
        }
        for (int set = 0; set < 6; set++) {
            x.refused(3, "point", set, 7, set + 1, 2);
            x.tells(1, "count", 2 + set);
            x.tells(set, "pointTold", set, 0, 1);
        }
    }

    private static void values(Run x) {
        x.done(1, "point", 0, 0, -60, 1);
        x.done(2, "point", 0, 1, 60, 1);
        x.tells(-60, "pointTold", 0, 0, 1);
        x.tells(60, "pointTold", 0, 1, 1);
        for (int value : Run.beyond(-60, 60)) {
            x.refused(1, "point", 0, 2, value, 1);
        }
        x.tells(2, "count", 2);
    }

    private static void weights(Run x) {
        x.done(1, "point", 0, 0, 0, 1);
        x.done(2, "point", 0, 1, 0, 4);
        x.tells(1, "pointTold", 0, 0, 2);
        x.tells(4, "pointTold", 0, 1, 2);
        for (int weight : Run.beyond(1, 4)) {
            x.refused(1, "point", 0, 2, 0, weight);
        }
        x.tells(2, "count", 2);
    }

    private static void fullSet(Run x) {
        x.row(0, -12, 1, 2, 3, 4, 5, 6, 7, 8, 9, 10, 11);
        x.done(12, "point", 0, 12, 12, 1);
        x.tells(12, "pointTold", 0, 11, 0);
        x.refused(2, "point", 0, 5, 0, 1);
        x.tells(12, "count", 2);
        x.tells(NO, "pointTold", 0, 12, 0);
        x.done(1, "point", 1, 5, 0, 1);
        x.done(0, "line", 0, 2);
        x.tells(12, "told", 0, 1);
    }

    private static void numberedByPlaces(Run x) {
        int[] places = {0, 12, -12, 1, -1, 11, -11, 2, -2, 5, -5, 3};
        for (int i = 0; i < places.length; i++) {
            x.done(i + 1, "point", 3, places[i], places[i] + 20, 1 + i % 4);
        }
        int[] inOrder = {-12, -11, -5, -2, -1, 0, 1, 2, 3, 5, 11, 12};
        int[] weights = {3, 3, 3, 1, 1, 1, 4, 4, 4, 2, 2, 2};
        for (int i = 0; i < inOrder.length; i++) {
            x.tells(inOrder[i], "pointTold", 3, i, 0);
            x.tells(inOrder[i] + 20, "pointTold", 3, i, 1);
            x.tells(weights[i], "pointTold", 3, i, 2);
        }
    }

    // ---- promise 1

    private static void newSets(Run x) {
        for (int set = 0; set < 6; set++) {
            x.tells(0, "count", 2 + set);
            x.tells(NO, "pointTold", set, 0, 0);
            x.refused(1, "take", set, 0);
        }
    }

    private static void newFits(Run x) {
        x.tells(0, "status");
        x.tells(0, "count", 0);
        x.tells(0, "count", 1);
        x.tells(-1, "trace", 0);
        for (int fit = 0; fit < 10; fit++) {
            x.tells(-1, "told", fit, 0);
            x.tells(NO, "level", fit, 0);
            x.refused(10, "forge", 0, 0, fit);
        }
        x.refused(3, "drop");
    }

    private static void newSheets(Run x) {
        for (int sheet = 0; sheet < 4; sheet++) {
            x.refused(10, "cell", sheet, 0, 0);
            x.refused(10, "forge", 2, 0, sheet);
            x.refused(10, "forge", 3, 0, sheet);
            for (int sort = 0; sort < 3; sort++) {
                x.refused(10, "points", 0, sheet, sort, 0);
            }
        }
    }

    private static void newObjectsShareNothing(Run x) {
        Run y = x.another();
        x.row(0, 0, 1, 2, 3);
        x.oneOfEachKind(0);
        x.cells(0, 0, 1);
        x.call("act", 0, 3, 0);
        x.call("act", 9, 0, 0);
        y.tells(0, "status");
        y.tells(0, "count", 0);
        y.tells(0, "count", 1);
        y.tells(0, "count", 2);
        y.refused(10, "cell", 0, 0, 0);
        Run z = x.another();
        z.tells(0, "status");
        z.tells(0, "count", 0);
        z.tells(0, "count", 1);
        z.tells(0, "count", 2);
        z.refused(10, "cell", 0, 0, 0);
    }

    // ---- promise 2

    private static void pointCounts(Run x) {
        for (int i = 0; i < 12; i++) {
            x.done(i + 1, "point", 4, 12 - 2 * i, 0, 1);
        }
        x.done(11, "take", 4, 0);
        x.done(12, "point", 4, -11, 0, 1);
    }

    private static void pointOfWrongNumbers(Run x) {
        for (int set : new int[] {-1, 6}) {
            x.refused(1, "point", set, 0, 0, 1);
        }
        x.refused(1, "point", 0, -13, 0, 1);
        x.refused(1, "point", 0, 13, 0, 1);
        x.refused(1, "point", 0, 0, -61, 1);
        x.refused(1, "point", 0, 0, 61, 1);
        x.refused(1, "point", 0, 0, 0, 0);
        x.refused(1, "point", 0, 0, 0, 5);
        x.tells(0, "count", 2);
        x.done(1, "point", 0, 0, 0, 1);
    }

    private static void pointForFullSet(Run x) {
        fill(x, 5);
        x.refused(2, "point", 5, -1, 0, 1);
        x.refused(2, "point", 5, 12, 0, 1);
        x.done(11, "take", 5, 11);
        x.done(12, "point", 5, 12, 0, 1);
        x.refused(2, "point", 5, 11, 0, 1);
        x.tells(12, "pointTold", 5, 11, 0);
    }

    private static void pointOfTakenPlace(Run x) {
        x.row(0, -1, 5, 6, 7);
        x.refused(3, "point", 0, -1, 5, 1);
        x.refused(3, "point", 0, 0, -6, 4);
        x.refused(3, "point", 0, 1, 0, 2);
        x.tells(6, "pointTold", 0, 1, 1);
        x.tells(1, "pointTold", 0, 1, 2);
        x.call("take", 0, 1);
        x.done(3, "point", 0, 0, -6, 4);
        x.tells(-6, "pointTold", 0, 1, 1);
    }

    private static void pointRefusedTwice(Run x) {
        fill(x, 0);
        x.refused(1, "point", 0, 13, 0, 1);
        x.refused(1, "point", 0, 0, 61, 1);
        x.refused(1, "point", 0, 0, 0, 5);
        x.refused(2, "point", 0, 0, 0, 1);
        x.call("take", 0, 0);
        x.refused(1, "point", 0, 1, 0, 0);
        x.refused(3, "point", 0, 1, 0, 1);
    }

    // ---- promise 3

    private static void takeCounts(Run x) {
        fill(x, 2);
        x.done(11, "take", 2, 11);
        x.tells(10, "pointTold", 2, 10, 0);
        x.done(10, "take", 2, 0);
        x.tells(1, "pointTold", 2, 0, 0);
        x.done(9, "take", 2, 5);
        x.tells(5, "pointTold", 2, 4, 0);
        x.tells(7, "pointTold", 2, 5, 0);
        for (int left = 8; left >= 0; left--) {
            x.done(left, "take", 2, left);
        }
        x.tells(0, "count", 4);
        x.done(1, "point", 2, 3, 33, 3);
        x.tells(33, "pointTold", 2, 0, 1);
    }

    private static void takeOfWrongNumbers(Run x) {
        x.refused(1, "take", 0, 0);
        x.row(0, 0, 7, 8);
        for (int i : Run.beyond(0, 1)) {
            x.refused(1, "take", 0, i);
        }
        for (int set : Run.beyond(0, 5)) {
            x.refused(1, "take", set, 0);
        }
        x.refused(1, "take", 1, 0);
        fill(x, 3);
        x.refused(1, "take", 3, 12);
        x.tells(2, "count", 2);
        x.tells(12, "count", 5);
    }

    // ---- promises 10 and 11

    private static void toldAtTheEdges(Run x) {
        x.call("point", 0, -1, -1, 1);
        x.tells(-1, "pointTold", 0, 0, 0);
        x.tells(-1, "pointTold", 0, 0, 1);
        x.tells(1, "pointTold", 0, 0, 2);
        x.call("point", 5, 12, 60, 4);
        x.tells(12, "pointTold", 5, 0, 0);
        x.tells(60, "pointTold", 5, 0, 1);
        x.tells(4, "pointTold", 5, 0, 2);
        fill(x, 1);
        x.tells(11, "pointTold", 1, 11, 0);
        x.tells(11, "pointTold", 1, 11, 1);
    }

    private static void toldOfNone(Run x) {
        x.tells(NO, "pointTold", 0, 0, 0);
        x.row(0, 0, 7, 8, 9);
        for (int set : Run.beyond(0, 5)) {
            x.tells(NO, "pointTold", set, 0, 0);
        }
        for (int i : Run.beyond(0, 2)) {
            x.tells(NO, "pointTold", 0, i, 0);
        }
        for (int what : Run.beyond(0, 2)) {
            x.tells(NO, "pointTold", 0, 0, what);
        }
        x.call("take", 0, 2);
        x.tells(NO, "pointTold", 0, 2, 0);
    }

    private static void countFits(Run x) {
        for (int i = 0; i < 10; i++) {
            x.tells(i, "count", 0);
            x.call("line", 0, 0);
        }
        x.tells(10, "count", 0);
        x.call("line", 0, 0);
        x.tells(10, "count", 0);
        x.call("drop");
        x.tells(9, "count", 0);
    }

    private static void countTrace(Run x) {
        x.tells(0, "count", 1);
        x.oneOfEachKind(0);
        x.call("act", 4, 3, 0);
        x.tells(11, "count", 1);
        x.call("act", 0, 0, 0);
        x.tells(1, "count", 1);
    }

    private static void countPoints(Run x) {
        for (int set = 0; set < 6; set++) {
            x.row(set, 0, new int[12 - set]);
        }
        for (int set = 0; set < 6; set++) {
            x.tells(12 - set, "count", 2 + set);
        }
    }

    private static void countOfAnother(Run x) {
        fill(x, 0);
        fill(x, 5);
        for (int what : Run.beyond(0, 7)) {
            x.tells(-1, "count", what);
        }
    }
}
