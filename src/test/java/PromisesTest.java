/** At least one test for each promise of DOC.md: ordinary inputs, the edges that it names, wrong inputs. */
public final class PromisesTest {
    private static final long NO = -1000000000000L;
    private static final Check CHECK = new Check("promises");

    public static void main(String[] args) {
        newObject();
        point();
        take();
        fit();
        line();
        lineThroughFewPoints();
        even();
        shorts();
        pieces();
        roomForFits();
        drop();
        pointTold();
        count();
        told();
        number();
        value();
        miss();
        level();
        far();
        begins();
        turns();
        low();
        swap();
        swapsOfLowZero();
        swaps();
        against();
        same();
        act();
        trace();
        sheet();
        cell();
        points();
        forgeKinds();
        forgeRowsAndSheets();
        forgeTheRest();
        status();
        keptPoints();
        CHECK.end();
    }

    private static void due(String call, long got, long due) {
        CHECK.due(call, got, due);
    }

    /** A call that was refused: it answers -1 and leaves this STATUS. */
    private static void refused(LevelFits x, String call, long got, int status) {
        due(call, got, -1);
        due("status after " + call, x.status(), status);
    }

    private static void isDone(LevelFits x, String call, long got, long answer) {
        due(call, got, answer);
        due("status after " + call, x.status(), 0);
    }

    /** POINTS of weight 1 at the places first, first + 1, .. */
    private static void row(LevelFits x, int set, int first, int... values) {
        for (int i = 0; i < values.length; i++) {
            x.point(set, first + i, values[i], 1);
        }
    }

    private static void numbers(LevelFits x, int fit, int piece, long... aboveAndBelow) {
        for (int i = 0; i < aboveAndBelow.length; i++) {
            due("number(" + fit + ", " + piece + ", " + i / 2 + ", " + i % 2 + ")",
                x.number(fit, piece, i / 2, i % 2), aboveAndBelow[i]);
        }
    }

    private static void levelIs(LevelFits x, int fit, long above, long below) {
        due("level(" + fit + ", 0)", x.level(fit, 0), above);
        due("level(" + fit + ", 1)", x.level(fit, 1), below);
    }

    // Promise 1
    private static void newObject() {
        LevelFits x = new LevelFits();
        due("NONE", LevelFits.NONE, -1);
        due("NO", LevelFits.NO, NO);
        due("status()", x.status(), 0);
        for (int what = 0; what < 8; what++) {
            due("count(" + what + ")", x.count(what), 0);
        }
        due("told(0, 0)", x.told(0, 0), -1);
        due("trace(0)", x.trace(0), -1);
        for (int sheet = 0; sheet < 4; sheet++) {
            refused(x, "cell of a missing SHEET", x.cell(sheet, 0, 0), 10);
        }
        LevelFits other = new LevelFits();
        other.point(0, 1, 1, 1);
        other.line(0, 0);
        due("another object's POINT", x.count(2), 0);
        due("another object's FIT", x.count(0), 0);
    }

    // Promise 2
    private static void point() {
        LevelFits x = new LevelFits();
        isDone(x, "point(0, 12, 60, 4)", x.point(0, 12, 60, 4), 1);
        isDone(x, "point(0, -12, -60, 1)", x.point(0, -12, -60, 1), 2);
        isDone(x, "point(0, 3, 7, 2)", x.point(0, 3, 7, 2), 3);
        isDone(x, "point(5, 3, 7, 2)", x.point(5, 3, 7, 2), 1);
        due("first PLACE", x.pointTold(0, 0, 0), -12);
        due("second PLACE", x.pointTold(0, 1, 0), 3);
        due("third PLACE", x.pointTold(0, 2, 0), 12);
        due("third VALUE", x.pointTold(0, 2, 1), 60);
        due("third WEIGHT", x.pointTold(0, 2, 2), 4);
        refused(x, "point(-1, 0, 0, 1)", x.point(-1, 0, 0, 1), 1);
        refused(x, "point(6, 0, 0, 1)", x.point(6, 0, 0, 1), 1);
        refused(x, "place 13", x.point(0, 13, 0, 1), 1);
        refused(x, "place -13", x.point(0, -13, 0, 1), 1);
        refused(x, "value 61", x.point(0, 0, 61, 1), 1);
        refused(x, "value -61", x.point(0, 0, -61, 1), 1);
        refused(x, "weight 0", x.point(0, 0, 0, 0), 1);
        refused(x, "weight 5", x.point(0, 0, 0, 5), 1);
        refused(x, "place least", x.point(0, Integer.MIN_VALUE, 0, 1), 1);
        refused(x, "same place", x.point(0, 3, 8, 1), 3);
        refused(x, "same place, wrong weight", x.point(0, 3, 8, 9), 1);
        due("count", x.count(2), 3);
        due("VALUE as before", x.pointTold(0, 1, 1), 7);
        for (int place = 4; place < 12; place++) {
            x.point(0, place, 0, 1);
        }
        isDone(x, "twelfth", x.point(0, 0, 0, 1), 12);
        refused(x, "thirteenth", x.point(0, 1, 0, 1), 2);
        refused(x, "thirteenth with a PLACE that is there", x.point(0, 0, 0, 1), 2);
        refused(x, "thirteenth, wrong", x.point(0, 99, 0, 1), 1);
        due("count of a full SET", x.count(2), 12);
    }

    // Promise 3
    private static void take() {
        LevelFits x = new LevelFits();
        row(x, 1, -1, 10, 20, 30);
        isDone(x, "take(1, 1)", x.take(1, 1), 2);
        due("the third moved up", x.pointTold(1, 1, 1), 30);
        due("its PLACE", x.pointTold(1, 1, 0), 1);
        due("its WEIGHT", x.pointTold(1, 1, 2), 1);
        refused(x, "take(1, 2)", x.take(1, 2), 1);
        refused(x, "take(1, -1)", x.take(1, -1), 1);
        refused(x, "take(6, 0)", x.take(6, 0), 1);
        refused(x, "take(-1, 0)", x.take(-1, 0), 1);
        isDone(x, "point again", x.point(1, 0, 21, 3), 3);
        isDone(x, "take(1, 0)", x.take(1, 0), 2);
        isDone(x, "take(1, 0)", x.take(1, 0), 1);
        isDone(x, "take(1, 0)", x.take(1, 0), 0);
        refused(x, "take(1, 0) of none", x.take(1, 0), 1);
    }

    // Promise 4
    private static void fit() {
        LevelFits x = new LevelFits();
        isDone(x, "fit(0, 6, -9, 1000, 60)", x.fit(0, 6, -9, 1000, 60), 0);
        numbers(x, 0, 0, 1, 10, -3, 20, 50, 3);
        isDone(x, "fit(5, -1000, 1000, -1000, 1)", x.fit(5, -1000, 1000, -1000, 1), 1);
        numbers(x, 1, 0, -1000, 1, 1000, 1, -1000, 1);
        refused(x, "fit of SET 6", x.fit(6, 0, 0, 0, 1), 1);
        refused(x, "fit of SET -1", x.fit(-1, 0, 0, 0, 1), 1);
        refused(x, "c0 1001", x.fit(0, 1001, 0, 0, 1), 1);
        refused(x, "c0 -1001", x.fit(0, -1001, 0, 0, 1), 1);
        refused(x, "c1 1001", x.fit(0, 0, 1001, 0, 1), 1);
        refused(x, "c1 -1001", x.fit(0, 0, -1001, 0, 1), 1);
        refused(x, "c2 1001", x.fit(0, 0, 0, 1001, 1), 1);
        refused(x, "c2 -1001", x.fit(0, 0, 0, -1001, 1), 1);
        refused(x, "d 0", x.fit(0, 0, 0, 0, 0), 1);
        refused(x, "d 61", x.fit(0, 0, 0, 0, 61), 1);
        refused(x, "d below 0", x.fit(0, 0, 0, 0, -1), 1);
        due("count(0)", x.count(0), 2);
    }

    // Promise 5
    private static void line() {
        LevelFits x = new LevelFits();
        row(x, 0, 0, 0, 0, 3);
        isDone(x, "line(0, 1)", x.line(0, 1), 0);
        numbers(x, 0, 0, -3, 4, 3, 2, 0, 1);
        levelIs(x, 0, 3, 4);
        x.point(1, 0, 0, 1);
        x.point(1, 1, 10, 4);
        isDone(x, "line(1, 0)", x.line(1, 0), 1);
        numbers(x, 1, 0, 8, 1, 0, 1, 0, 1);
        levelIs(x, 1, 8, 1);
        row(x, 2, -2, 2, 1, 0, 1, 2);
        isDone(x, "line(2, 2)", x.line(2, 2), 2);
        numbers(x, 2, 0, 1, 4, 0, 1, 1, 2);
        levelIs(x, 2, 1, 4);
        refused(x, "degree 3", x.line(0, 3), 1);
        refused(x, "degree -1", x.line(0, -1), 1);
        refused(x, "SET 6", x.line(6, 0), 1);
        refused(x, "SET -1", x.line(-1, 0), 1);
        due("count(0)", x.count(0), 3);
    }

    private static void lineThroughFewPoints() {
        LevelFits x = new LevelFits();
        x.line(3, 2);
        numbers(x, 0, 0, 0, 1, 0, 1, 0, 1);
        levelIs(x, 0, 0, 1);
        x.point(3, 5, 7, 3);
        x.line(3, 2);
        numbers(x, 1, 0, 7, 1, 0, 1, 0, 1);
        x.line(3, 0);
        numbers(x, 2, 0, 7, 1, 0, 1, 0, 1);
        x.point(3, 2, 5, 4);
        x.line(3, 2);
        numbers(x, 3, 0, 11, 3, 2, 3, 0, 1);
        x.line(3, 1);
        numbers(x, 4, 0, 11, 3, 2, 3, 0, 1);
        x.point(3, 3, 7, 1);
        x.line(3, 2);
        numbers(x, 5, 0, -3, 1, 16, 3, -2, 3);
        levelIs(x, 5, 0, 1);
        due("told(5, 3)", x.told(5, 3), 3);
    }

    // Promise 6
    private static void even() {
        LevelFits x = new LevelFits();
        isDone(x, "even(0)", x.even(0), 0);
        numbers(x, 0, 0, 0, 1, 0, 1, 0, 1);
        x.point(0, 4, 9, 2);
        isDone(x, "even(0) of one", x.even(0), 1);
        numbers(x, 1, 0, 9, 1, 0, 1, 0, 1);
        x.point(0, 2, 6, 2);
        isDone(x, "even(0) of two", x.even(0), 2);
        numbers(x, 2, 0, 5, 1, 0, 1, 1, 4);
        row(x, 1, 0, 0, 1, 2);
        isDone(x, "even(1)", x.even(1), 3);
        numbers(x, 3, 0, 1, 4, 0, 1, 1, 2);
        levelIs(x, 3, 1, 4);
        refused(x, "even(6)", x.even(6), 1);
        refused(x, "even(-1)", x.even(-1), 1);
        x.point(1, -1, 0, 1);
        refused(x, "a PLACE below 0", x.even(1), 3);
        x.point(2, -1, 0, 1);
        refused(x, "the one PLACE below 0", x.even(2), 3);
        due("count(0)", x.count(0), 4);
    }

    // Promise 7
    private static void shorts() {
        LevelFits x = new LevelFits();
        isDone(x, "shorts(0, 1, 0)", x.shorts(0, 1, 0), 0);
        numbers(x, 0, 0, -64, 1, -8, 1, 0, 1);
        isDone(x, "shorts(0, 0, 2)", x.shorts(0, 0, 2), 1);
        numbers(x, 1, 0, -64, 1, 0, 1, 0, 1);
        x.point(0, 1, 0, 1);
        isDone(x, "one POINT at 1", x.shorts(0, 1, 1), 2);
        numbers(x, 2, 0, -8, 1, 8, 1, 0, 1);
        x.point(1, 0, 3, 4);
        isDone(x, "one POINT at 0", x.shorts(1, 1, 2), 3);
        numbers(x, 3, 0, 3, 1, -8, 1, 0, 1);
        row(x, 2, 0, 0, 1);
        x.shorts(2, 0, 0);
        numbers(x, 4, 0, 0, 1, 0, 1, 0, 1);
        levelIs(x, 4, 1, 1);
        x.shorts(2, 0, 1);
        numbers(x, 5, 0, 1, 2, 0, 1, 0, 1);
        levelIs(x, 5, 1, 2);
        x.point(3, 0, 0, 1);
        x.point(3, 1, 1, 2);
        x.shorts(3, 0, 2);
        // By quarters: at 3/4 the misses are 3/4 and 1/2, at 1/2 they are 1/2 and 1.
        numbers(x, 6, 0, 3, 4, 0, 1, 0, 1);
        levelIs(x, 6, 3, 4);
        x.point(4, 11, -60, 1);
        x.point(4, 12, 60, 1);
        x.shorts(4, 1, 0);
        // A slope of 6 or more wants c0 below -64; of 5 it is -58 or -57, with misses of 57 and 58.
        numbers(x, 7, 0, -58, 1, 5, 1, 0, 1);
        levelIs(x, 7, 58, 1);
        x.point(5, 1, -60, 1);
        x.shorts(5, 1, 2);
        numbers(x, 8, 0, -64, 1, 4, 1, 0, 1);
        x.take(5, 0);
        x.point(5, 12, -60, 1);
        x.shorts(5, 1, 2);
        numbers(x, 9, 0, -63, 1, 1, 4, 0, 1);
        refused(x, "degree 2", x.shorts(0, 2, 0), 1);
        refused(x, "degree -1", x.shorts(0, -1, 0), 1);
        refused(x, "bits 3", x.shorts(0, 0, 3), 1);
        refused(x, "bits -1", x.shorts(0, 0, -1), 1);
        refused(x, "SET 6", x.shorts(6, 0, 0), 1);
        refused(x, "SET -1", x.shorts(-1, 0, 0), 1);
    }

    // Promise 8
    private static void pieces() {
        LevelFits x = new LevelFits();
        row(x, 0, 0, 0, 1, 5, 6, 20);
        isDone(x, "pieces(0, 0, 1, 2)", x.pieces(0, 0, 1, 2), 0);
        due("told(0, 4)", x.told(0, 4), 3);
        numbers(x, 0, 0, 1, 2, 0, 1, 0, 1);
        numbers(x, 0, 1, 11, 2, 0, 1, 0, 1);
        numbers(x, 0, 2, 20, 1, 0, 1, 0, 1);
        levelIs(x, 0, 1, 2);
        isDone(x, "a level just below", x.pieces(0, 0, 499, 1000), 1);
        due("told(1, 4)", x.told(1, 4), 5);
        isDone(x, "level 0, degree 1", x.pieces(0, 1, 0, 1), 2);
        due("told(2, 4)", x.told(2, 4), 3);
        isDone(x, "level 10000", x.pieces(0, 2, 10000, 1), 3);
        due("told(3, 4)", x.told(3, 4), 1);
        isDone(x, "without POINTS", x.pieces(1, 2, 1, 1), 4);
        due("told(4, 4)", x.told(4, 4), 0);
        levelIs(x, 4, 0, 1);
        refused(x, "p -1", x.pieces(0, 0, -1, 1), 1);
        refused(x, "p 10001", x.pieces(0, 0, 10001, 1), 1);
        refused(x, "q 0", x.pieces(0, 0, 1, 0), 1);
        refused(x, "q 1001", x.pieces(0, 0, 1, 1001), 1);
        refused(x, "degree 3", x.pieces(0, 3, 1, 1), 1);
        refused(x, "degree -1", x.pieces(0, -1, 1, 1), 1);
        refused(x, "SET 6", x.pieces(6, 0, 1, 1), 1);
        refused(x, "SET -1", x.pieces(-1, 0, 1, 1), 1);
        due("count(0)", x.count(0), 5);
    }

    // Promises 4 to 8: STATUS 2, and what comes ahead of it and behind it
    private static void roomForFits() {
        LevelFits x = new LevelFits();
        x.point(1, -1, 0, 1);
        for (int i = 0; i < 10; i++) {
            isDone(x, "FIT " + i, x.line(0, 0), i);
        }
        refused(x, "fit: no room", x.fit(0, 0, 0, 0, 1), 2);
        refused(x, "line: no room", x.line(0, 0), 2);
        refused(x, "even: no room", x.even(0), 2);
        refused(x, "even: no room, and a PLACE below 0", x.even(1), 2);
        refused(x, "shorts: no room", x.shorts(0, 0, 0), 2);
        refused(x, "pieces: no room", x.pieces(0, 0, 1, 1), 2);
        refused(x, "fit: wrong", x.fit(0, 0, 0, 0, 0), 1);
        refused(x, "line: wrong", x.line(0, 3), 1);
        refused(x, "even: wrong", x.even(6), 1);
        refused(x, "shorts: wrong", x.shorts(0, 0, 3), 1);
        refused(x, "pieces: wrong", x.pieces(0, 0, 1, 0), 1);
        due("count(0)", x.count(0), 10);
    }

    // Promise 9
    private static void drop() {
        LevelFits x = new LevelFits();
        refused(x, "drop() of none", x.drop(), 3);
        x.line(0, 0);
        x.fit(0, 1, 2, 3, 4);
        isDone(x, "drop()", x.drop(), 1);
        due("told(1, 0)", x.told(1, 0), -1);
        due("told(0, 0)", x.told(0, 0), 1);
        isDone(x, "the number comes again", x.even(0), 1);
        isDone(x, "drop()", x.drop(), 1);
        isDone(x, "drop()", x.drop(), 0);
        refused(x, "drop() of none", x.drop(), 3);
        due("count(0)", x.count(0), 0);
    }

    // Promise 10
    private static void pointTold() {
        LevelFits x = new LevelFits();
        x.point(4, -7, -1, 3);
        due("PLACE", x.pointTold(4, 0, 0), -7);
        due("VALUE", x.pointTold(4, 0, 1), -1);
        due("WEIGHT", x.pointTold(4, 0, 2), 3);
        due("what 3", x.pointTold(4, 0, 3), NO);
        due("what -1", x.pointTold(4, 0, -1), NO);
        due("POINT 1", x.pointTold(4, 1, 0), NO);
        due("POINT -1", x.pointTold(4, -1, 0), NO);
        due("SET 6", x.pointTold(6, 0, 0), NO);
        due("SET -1", x.pointTold(-1, 0, 0), NO);
        due("SET 3", x.pointTold(3, 0, 0), NO);
    }

    // Promise 11
    private static void count() {
        LevelFits x = new LevelFits();
        for (int s = 0; s < 6; s++) {
            row(x, s, 0, new int[s]);
        }
        x.line(0, 0);
        x.line(0, 1);
        x.line(0, 1);
        x.act(0, 3, 0);
        due("count(0)", x.count(0), 3);
        due("count(1)", x.count(1), 6);
        for (int s = 0; s < 6; s++) {
            due("count of SET " + s, x.count(2 + s), s);
        }
        due("count(8)", x.count(8), -1);
        due("count(-1)", x.count(-1), -1);
        due("count of the least", x.count(Integer.MIN_VALUE), -1);
        due("count of the least + 1", x.count(Integer.MIN_VALUE + 1), -1);
        due("count of the greatest", x.count(Integer.MAX_VALUE), -1);
    }

    // Promise 12
    private static void told() {
        LevelFits x = new LevelFits();
        row(x, 0, 0, 0, 4, 0);
        x.fit(0, 0, 0, 0, 1);
        x.line(0, 1);
        x.even(0);
        x.shorts(0, 1, 0);
        x.pieces(0, 0, 0, 1);
        int[] degrees = {2, 1, 2, 1, 0};
        int[] fars = {1, 3, 3, 3, 3};
        int[] parts = {1, 1, 1, 1, 3};
        for (int f = 0; f < 5; f++) {
            due("KIND of " + f, x.told(f, 0), f);
            due("POINTS of " + f, x.told(f, 1), 3);
            due("DEGREE of " + f, x.told(f, 2), degrees[f]);
            due("FAR of " + f, x.told(f, 3), fars[f]);
            due("PIECES of " + f, x.told(f, 4), parts[f]);
        }
        due("told(0, 5)", x.told(0, 5), -1);
        due("told(0, -1)", x.told(0, -1), -1);
        due("told(5, 0)", x.told(5, 0), -1);
        due("told(-1, 0)", x.told(-1, 0), -1);
        due("told(10, 0)", x.told(10, 0), -1);
        x.line(1, 0);
        due("FAR without POINTS", x.told(5, 3), 0);
        due("PIECES of a LINE without POINTS", x.told(5, 4), 1);
        x.shorts(1, 0, 1);
        due("DEGREE of a SHORT one", x.told(6, 2), 0);
    }

    // Promise 13
    private static void number() {
        LevelFits x = new LevelFits();
        x.fit(0, -6, 4, 0, 8);
        numbers(x, 0, 0, -3, 4, 1, 2, 0, 1);
        numbers(x, 0, 77, -3, 4, 1, 2, 0, 1);
        numbers(x, 0, -1, -3, 4, 1, 2, 0, 1);
        due("power 3", x.number(0, 0, 3, 0), NO);
        due("power -1", x.number(0, 0, -1, 0), NO);
        due("what 2", x.number(0, 0, 0, 2), NO);
        due("what -1", x.number(0, 0, 0, -1), NO);
        due("FIT 1", x.number(1, 0, 0, 0), NO);
        due("FIT -1", x.number(-1, 0, 0, 0), NO);
        row(x, 1, 0, 3, 9);
        x.pieces(1, 0, 0, 1);
        numbers(x, 1, 1, 9, 1, 0, 1, 0, 1);
        due("PIECE 2", x.number(1, 2, 0, 0), NO);
        due("PIECE -1", x.number(1, -1, 0, 0), NO);
        x.pieces(2, 0, 0, 1);
        due("PIECE 0 without POINTS", x.number(2, 0, 0, 0), NO);
    }

    // Promise 14
    private static void value() {
        LevelFits x = new LevelFits();
        x.fit(0, 1, 2, 3, 6);
        due("value at 100", x.value(0, 100, 0), 10067);
        due("below it", x.value(0, 100, 1), 2);
        due("value at -100", x.value(0, -100, 0), 29801);
        due("below it", x.value(0, -100, 1), 6);
        due("value at -1", x.value(0, -1, 0), 1);
        due("below it", x.value(0, -1, 1), 3);
        due("x 101", x.value(0, 101, 0), NO);
        due("x -101", x.value(0, -101, 0), NO);
        due("what 2", x.value(0, 0, 2), NO);
        due("what -1", x.value(0, 0, -1), NO);
        due("FIT 1", x.value(1, 0, 0), NO);
        due("FIT -1", x.value(-1, 0, 0), NO);
        row(x, 1, 0, 0, 1, 5, 6, 20);
        x.pieces(1, 0, 1, 2);
        int[] places = {-100, -1, 0, 1, 2, 3, 4, 5, 100};
        int[] halves = {1, 1, 1, 1, 11, 11, 40, 40, 40};
        for (int i = 0; i < places.length; i++) {
            due("PIECES at " + places[i], x.value(1, places[i], 0) * 2 / x.value(1, places[i], 1), halves[i]);
        }
        x.pieces(2, 1, 0, 1);
        due("PIECES without POINTS", x.value(2, 7, 0), 0);
        due("below it", x.value(2, 7, 1), 1);
        // A gap between rows belongs to the row ahead of it.
        x.point(3, -5, 1, 1);
        x.point(3, 5, 2, 1);
        x.pieces(3, 0, 0, 1);
        due("in the gap", x.value(3, 4, 0), 1);
        due("behind it", x.value(3, 5, 0), 2);
    }

    // Promise 15
    private static void miss() {
        LevelFits x = new LevelFits();
        x.point(0, 2, -5, 3);
        x.point(0, 4, 1, 4);
        x.fit(0, 1, 1, 0, 2);
        due("miss(0, 0, 0)", x.miss(0, 0, 0), -39);
        due("miss(0, 0, 1)", x.miss(0, 0, 1), 2);
        due("miss(0, 1, 0)", x.miss(0, 1, 0), -6);
        due("miss(0, 1, 1)", x.miss(0, 1, 1), 1);
        due("POINT 2", x.miss(0, 2, 0), NO);
        due("POINT -1", x.miss(0, -1, 0), NO);
        due("what 2", x.miss(0, 0, 2), NO);
        due("what -1", x.miss(0, 0, -1), NO);
        due("FIT 1", x.miss(1, 0, 0), NO);
        due("FIT -1", x.miss(-1, 0, 0), NO);
        x.pieces(0, 0, 0, 1);
        due("a PIECE's own POINT", x.miss(1, 1, 0), 0);
        due("below it", x.miss(1, 1, 1), 1);
    }

    // Promise 16
    private static void level() {
        LevelFits x = new LevelFits();
        x.fit(0, 5, 0, 0, 1);
        levelIs(x, 0, 0, 1);
        x.point(0, 2, -5, 3);
        x.point(0, 4, 1, 4);
        x.fit(0, 1, 1, 0, 2);
        levelIs(x, 1, 39, 2);
        due("what 2", x.level(1, 2), NO);
        due("what -1", x.level(1, -1), NO);
        due("FIT 2", x.level(2, 0), NO);
        due("FIT -1", x.level(-1, 0), NO);
    }

    // Promise 17
    private static void far() {
        LevelFits x = new LevelFits();
        row(x, 0, 0, 3, -1, -3, 2, 3);
        x.fit(0, 0, 0, 0, 1);
        due("far(0, 0)", x.far(0, 0), 0);
        due("far(0, 1)", x.far(0, 1), 2);
        due("far(0, 2)", x.far(0, 2), 4);
        due("far(0, 3)", x.far(0, 3), -1);
        due("far(0, -1)", x.far(0, -1), -1);
        due("far(1, 0)", x.far(1, 0), -1);
        due("far(-1, 0)", x.far(-1, 0), -1);
        x.fit(1, 0, 0, 0, 1);
        due("without POINTS", x.far(1, 0), -1);
        row(x, 2, 0, 0, 1, 5, 6, 20);
        x.pieces(2, 0, 1, 2);
        due("told(2, 3)", x.told(2, 3), 4);
        due("far(2, 3)", x.far(2, 3), 3);
        due("far(2, 4)", x.far(2, 4), -1);
    }

    // Promise 18
    private static void begins() {
        LevelFits x = new LevelFits();
        row(x, 0, -3, 0, 1, 5, 6, 20);
        x.pieces(0, 0, 1, 2);
        due("begins(0, 0)", x.begins(0, 0), 0);
        due("begins(0, 1)", x.begins(0, 1), 2);
        due("begins(0, 2)", x.begins(0, 2), 4);
        due("begins(0, 3)", x.begins(0, 3), -1);
        due("begins(0, -1)", x.begins(0, -1), -1);
        x.line(0, 0);
        due("of a LINE", x.begins(1, 0), -1);
        due("FIT 2", x.begins(2, 0), -1);
        due("FIT -1", x.begins(-1, 0), -1);
        x.pieces(1, 0, 1, 2);
        due("without POINTS", x.begins(2, 0), -1);
        // The first row is as long as it can be, though the second one could take its last POINT.
        row(x, 2, 0, 0, 1, 2, 3);
        x.pieces(2, 0, 1, 1);
        due("three in the first row", x.begins(3, 1), 3);
        due("two rows", x.told(3, 4), 2);
    }

    // Promise 19
    private static void turns() {
        LevelFits x = new LevelFits();
        row(x, 0, -2, 2, 1, 0, 1, 2);
        x.line(0, 2);
        due("the first four of five", x.turns(0), 15);
        x.line(0, 0);
        // 2 and 0 are the first pair of the greatest LOW.
        due("degree 0", x.turns(1), 5);
        row(x, 1, 0, 0, 3, 3, 0, 0);
        x.line(1, 0);
        due("like ones", x.turns(2), 3);
        x.line(0, 1);
        due("degree 1", x.turns(3), 21);
        row(x, 2, 0, 0, 1, 2);
        x.even(2);
        due("EVEN", x.turns(4), 7);
        row(x, 3, 0, 1, 2, 3, 4);
        x.line(3, 1);
        due("LOW 0", x.turns(5), 7);
        x.line(2, 2);
        due("too few POINTS", x.turns(6), -1);
        x.pieces(0, 0, 1, 1);
        due("PIECES", x.turns(7), -1);
        x.fit(0, 1, 1, 1, 1);
        due("FIT", x.turns(8), -1);
        x.shorts(0, 0, 1);
        due("SHORT", x.turns(9), -1);
        x.drop();
        row(x, 4, 0, 1, 0, 4);
        x.line(4, 0);
        due("the first POINT is not FAR", x.turns(9), 6);
        due("FIT 10", x.turns(10), -1);
        due("FIT -1", x.turns(-1), -1);
    }

    // Promise 20
    private static void low() {
        LevelFits x = new LevelFits();
        x.point(0, 0, 0, 1);
        x.point(0, 1, 10, 4);
        x.point(0, 2, 3, 2);
        x.line(0, 0);
        due("low(0, 3, 0)", x.low(0, 3, 0), 8);
        due("low(0, 3, 1)", x.low(0, 3, 1), 1);
        due("low(0, 5, 0)", x.low(0, 5, 0), 2);
        due("low(0, 6, 0)", x.low(0, 6, 0), 28);
        due("low(0, 6, 1)", x.low(0, 6, 1), 3);
        due("what 2", x.low(0, 3, 2), NO);
        due("what -1", x.low(0, 3, -1), NO);
        int[] none = {0, 1, 7, 8, 9, 12, -1, -3, Integer.MIN_VALUE, 1 << 31 | 1, 0x30000000};
        for (int bits : none) {
            due("low(0, " + bits + ", 0)", x.low(0, bits, 0), NO);
        }
        x.line(0, 1);
        due("low(1, 7, 0)", x.low(1, 7, 0), 17);
        due("low(1, 7, 1)", x.low(1, 7, 1), 2);
        due("low(1, 3, 0)", x.low(1, 3, 0), NO);
        x.line(0, 2);
        due("too few POINTS", x.low(2, 7, 0), NO);
        x.fit(0, 0, 0, 0, 1);
        due("FIT", x.low(3, 3, 0), NO);
        x.pieces(0, 0, 1, 1);
        due("PIECES", x.low(4, 3, 0), NO);
        due("FIT 5", x.low(5, 3, 0), NO);
        due("FIT -1", x.low(-1, 3, 0), NO);
        row(x, 1, 0, 0, 1, 2);
        x.even(1);
        due("EVEN", x.low(5, 7, 1), 4);
    }

    // Promise 21
    private static void swap() {
        LevelFits x = new LevelFits();
        row(x, 0, 0, 0, 4, 10, -6, 2);
        x.line(0, 0);
        due("behind all, SIGN as the last", x.swap(0, 3), 5);
        due("behind all, SIGN not as the last", x.swap(0, 5), 12);
        due("nothing changes", x.swap(0, 12), 12);
        due("ahead of all, SIGN not as the first", x.swap(0, 24), 12);
        due("between, the one behind goes", x.swap(0, 18), 10);
        due("between, the one ahead goes", x.swap(0, 10), 12);
        row(x, 1, 0, 9, 5, 0);
        x.line(1, 0);
        due("ahead of all, SIGN as the first", x.swap(1, 6), 5);
        row(x, 2, 0, 5, 5, 9);
        x.line(2, 0);
        due("LOW 0, above", x.swap(2, 3), 6);
        row(x, 3, 0, 5, 5, 1);
        x.line(3, 0);
        due("LOW 0, below", x.swap(3, 3), 5);
        row(x, 4, 0, 7, 7, 7);
        x.line(4, 0);
        due("LOW 0 and nothing changes", x.swap(4, 5), 5);
        row(x, 5, 0, 5, 5, 6);
        x.line(5, 0);
        due("LOW 0, above by 1", x.swap(5, 3), 6);
        x.drop();
        due("no TURNS", x.swap(0, 7), -1);
        due("no such POINT", x.swap(0, 33), -1);
        due("below 0", x.swap(0, -1), -1);
        due("FIT 5", x.swap(5, 3), -1);
        due("FIT -1", x.swap(-1, 3), -1);
        x.pieces(0, 0, 1, 1);
        due("PIECES", x.swap(5, 3), -1);
        x.shorts(0, 0, 1);
        due("SHORT", x.swap(6, 3), -1);
    }

    /** All VALUES but one are 0, so LOW is 0 and SIGNS are above, below, ..: degree, PLACE, VALUE, TURNS that come. */
    private static void swapsOfLowZero() {
        int[][] rows = {
            {1, 0, 7, 13}, {1, 0, -7, 7}, {1, 3, 7, 11}, {1, 3, -7, 14},
            {2, 0, 7, 29}, {2, 0, -7, 15}, {2, 1, 7, 30}, {2, 1, -7, 27}, {2, 2, 7, 23}, {2, 2, -7, 29},
            {2, 3, 7, 27}, {2, 3, -7, 15}, {2, 4, 7, 30}, {2, 4, -7, 23}
        };
        for (int[] r : rows) {
            LevelFits x = new LevelFits();
            int size = r[0] + 3;
            for (int place = 0; place < size; place++) {
                x.point(0, place, place == r[1] ? r[2] : 0, 1);
            }
            x.line(0, r[0]);
            int bits = (1 << size) - 1 & ~(1 << r[1]);
            due("degree " + r[0] + ", " + r[2] + " at " + r[1], x.swap(0, bits), r[3]);
        }
    }

    // Promise 22
    private static void swaps() {
        LevelFits x = new LevelFits();
        row(x, 0, 0, 0, 4, 10, -6, 2);
        x.line(0, 0);
        due("swaps(0, 3)", x.swaps(0, 3), 2);
        due("swaps(0, 5)", x.swaps(0, 5), 1);
        due("swaps(0, 12)", x.swaps(0, 12), 0);
        due("swaps(0, 18)", x.swaps(0, 18), 2);
        due("no TURNS", x.swaps(0, 7), -1);
        due("below 0", x.swaps(0, -1), -1);
        due("FIT 1", x.swaps(1, 3), -1);
        due("FIT -1", x.swaps(-1, 3), -1);
        x.fit(0, 0, 0, 0, 1);
        due("FIT", x.swaps(1, 3), -1);
    }

    // Promise 23
    private static void against() {
        LevelFits x = new LevelFits();
        x.point(0, 0, 1, 1);
        x.fit(0, 1, 0, 0, 3);
        x.fit(0, 4, 0, 0, 6);
        x.fit(0, 10, 0, 0, 6);
        due("2/3 against 1/3", x.against(0, 1), 1);
        due("1/3 against 2/3", x.against(1, 0), -1);
        due("2/3 against 2/3", x.against(0, 2), 0);
        due("itself", x.against(1, 1), 0);
        x.pieces(0, 0, 1, 1);
        due("PIECES", x.against(3, 1), -1);
        x.line(1, 0);
        due("without POINTS", x.against(3, 4), 0);
        due("FIT 5", x.against(5, 0), -2);
        due("FIT 5 behind", x.against(0, 5), -2);
        due("FIT -1", x.against(-1, 0), -2);
        due("FIT -1 behind", x.against(0, -1), -2);
    }

    // Promise 24
    private static void same() {
        LevelFits x = new LevelFits();
        row(x, 0, -2, 2, 1, 0, 1, 2);
        row(x, 1, 0, 0, 1, 2);
        x.line(0, 2);
        x.even(1);
        x.fit(2, 3, 0, 6, 12);
        x.fit(2, 3, 1, 6, 12);
        x.fit(2, 6, 0, 12, 25);
        x.fit(2, 1, 2, 3, 7);
        x.fit(2, 2, 2, 3, 7);
        x.fit(2, 1, 2, 4, 7);
        x.fit(2, 1, 2, 3, 8);
        due("LINE and EVEN", x.same(0, 1), 1);
        due("LINE and FIT", x.same(0, 2), 1);
        due("another c1", x.same(0, 3), 0);
        due("another below", x.same(2, 4), 0);
        due("itself", x.same(3, 3), 1);
        due("only c0 differs", x.same(5, 6), 0);
        due("only c2 differs", x.same(5, 7), 0);
        due("only d differs", x.same(5, 8), 0);
        due("FIT 9", x.same(9, 0), -1);
        x.pieces(1, 0, 1, 1);
        due("PIECES", x.same(9, 0), -1);
        due("PIECES behind", x.same(0, 9), -1);
        due("PIECES and itself", x.same(9, 9), -1);
        due("FIT -1", x.same(0, -1), -1);
    }

    private static LevelFits oneOfEachKind() {
        LevelFits x = new LevelFits();
        row(x, 0, 0, 1, 2, 3);
        x.fit(0, 0, 0, 0, 1);
        x.line(0, 0);
        x.even(0);
        x.shorts(0, 0, 0);
        x.pieces(0, 0, 1, 1);
        return x;
    }

    // Promise 25: with m 3, n the KIND and x 10
    private static void act() {
        LevelFits x = oneOfEachKind();
        int[] answers = {
            13, 26, 10, 26 ^ 10,
            14, 28, 27, 28 ^ 27,
            14, 22, 24, 24 + (22 ^ 24),
            13, 26, 20, 26 ^ 20,
            24, 24, 18, 24 ^ 18
        };
        for (int i = 0; i < answers.length; i++) {
            isDone(x, "act(" + i / 4 + ", " + i % 4 + ", 10)", x.act(i / 4, i % 4, 10), answers[i]);
        }
        isDone(x, "wrapping up", x.act(0, 0, Integer.MAX_VALUE), Integer.MIN_VALUE + 2);
        isDone(x, "wrapping twice", x.act(1, 1, Integer.MAX_VALUE), 6);
        isDone(x, "wrapping down", x.act(3, 2, Integer.MIN_VALUE), 0);
        isDone(x, "-1 is an answer", x.act(0, 0, -4), -1);
        refused(x, "ACT 4", x.act(0, 4, 0), 1);
        refused(x, "ACT -1", x.act(0, -1, 0), 1);
        refused(x, "FIT 5", x.act(5, 0, 0), 1);
        refused(x, "FIT -1", x.act(-1, 0, 0), 1);
    }

    // Promise 26
    private static void trace() {
        LevelFits x = oneOfEachKind();
        int[][] traces = {
            {10}, {11, 10}, {12}, {13, 11, 10, 12},
            {20, 10}, {11, 20, 10}, {21, 12}, {13, 11, 20, 10, 21, 12},
            {20, 10}, {30, 11, 20, 10}, {21, 12}, {31, 21, 12, 13, 30, 11, 20, 10, 21, 12},
            {10}, {11, 10}, {40, 12, 10}, {13, 11, 10, 40, 12, 10},
            {50, 20, 10}, {51, 11, 50, 20, 10, 50, 20, 10}, {21, 12}, {13, 51, 11, 50, 20, 10, 50, 20, 10, 21, 12}
        };
        for (int i = 0; i < traces.length; i++) {
            x.act(i / 4, i % 4, 10);
            due("count(1) after act " + i, x.count(1), traces[i].length);
            for (int t = 0; t < traces[i].length; t++) {
                due("trace(" + t + ") after act " + i, x.trace(t), traces[i][t]);
            }
            due("behind the end", x.trace(traces[i].length), -1);
        }
        due("trace(-1)", x.trace(-1), -1);
        due("trace(50)", x.trace(50), -1);
        x.act(0, 4, 0);
        x.drop();
        due("THE TRACE after a refused act() and a drop()", x.count(1), 11);
        due("its first", x.trace(0), 13);
    }

    // Promise 27
    private static void sheet() {
        LevelFits x = new LevelFits();
        isDone(x, "sheet(0, 0, 40)", x.sheet(0, 0, 40), 1);
        isDone(x, "its last number", x.cell(0, 39, 1), 1);
        isDone(x, "sheet(3, 2, 0)", x.sheet(3, 2, 0), 1);
        refused(x, "a number of an empty SHEET", x.cell(3, 0, 1), 12);
        isDone(x, "sheet(1, 1, 3)", x.sheet(1, 1, 3), 1);
        x.cell(1, 2, 9);
        isDone(x, "sheet(1, 1, 3) again", x.sheet(1, 1, 3), 1);
        isDone(x, "all 0 again", x.forge(2, 2, 1), 0);
        isDone(x, "sheet(1, -1, 99)", x.sheet(1, -1, 99), 1);
        refused(x, "missing now", x.cell(1, 0, 1), 10);
        isDone(x, "sheet(1, -1, -99), missing already", x.sheet(1, -1, -99), 1);
        refused(x, "sort 3", x.sheet(0, 3, 1), 1);
        refused(x, "sort -2", x.sheet(0, -2, 1), 1);
        refused(x, "n 41", x.sheet(0, 0, 41), 1);
        refused(x, "n -1", x.sheet(0, 0, -1), 1);
        refused(x, "SHEET 4", x.sheet(4, 0, 1), 1);
        refused(x, "SHEET -1", x.sheet(-1, 0, 1), 1);
        refused(x, "SHEET 4, sort -1", x.sheet(4, -1, 1), 1);
        isDone(x, "as it was", x.cell(0, 39, 1), 1);
    }

    // Promise 28
    private static void cell() {
        LevelFits x = new LevelFits();
        x.sheet(2, 1, 3);
        isDone(x, "cell(2, 0, -100)", x.cell(2, 0, -100), 1);
        isDone(x, "cell(2, 2, 100)", x.cell(2, 2, 100), 1);
        due("number 0", x.forge(2, 0, 2), -100);
        due("number 1", x.forge(2, 1, 2), 0);
        due("number 2", x.forge(2, 2, 2), 100);
        refused(x, "v 101", x.cell(2, 0, 101), 1);
        refused(x, "v -101", x.cell(2, 0, -101), 1);
        refused(x, "i 3", x.cell(2, 3, 0), 12);
        refused(x, "i -1", x.cell(2, -1, 0), 12);
        refused(x, "i outside and v 101", x.cell(2, 3, 101), 1);
        refused(x, "missing", x.cell(0, 0, 0), 10);
        refused(x, "missing, i outside", x.cell(0, -1, 0), 10);
        refused(x, "missing, v 101", x.cell(0, 0, 101), 1);
        refused(x, "SHEET 4", x.cell(4, 0, 0), 1);
        refused(x, "SHEET -1", x.cell(-1, 0, 0), 1);
        due("number 0 as before", x.forge(2, 0, 2), -100);
    }

    private static void cells(LevelFits x, int sheet, int sort, int... numbers) {
        x.sheet(sheet, sort, numbers.length);
        for (int i = 0; i < numbers.length; i++) {
            x.cell(sheet, i, numbers[i]);
        }
    }

    // Promise 29
    private static void points() {
        LevelFits x = new LevelFits();
        cells(x, 0, 0, 99, -12, 60, 4, 0);
        cells(x, 1, 1, 5, -60, 1);
        cells(x, 2, 2, 13, 0, 1, 0, 61, 1, 0, 0, 0, 4, -4, 2);
        isDone(x, "bytes", x.points(0, 0, 0, 1), 1);
        due("PLACE", x.pointTold(0, 0, 0), -12);
        due("VALUE", x.pointTold(0, 0, 1), 60);
        due("WEIGHT", x.pointTold(0, 0, 2), 4);
        isDone(x, "ints", x.points(0, 1, 1, 0), 2);
        isDone(x, "longs", x.points(5, 2, 2, 9), 1);
        due("its VALUE", x.pointTold(5, 0, 1), -4);
        refused(x, "place 13", x.points(0, 2, 2, 0), 3);
        refused(x, "value 61", x.points(0, 2, 2, 3), 3);
        refused(x, "weight 0", x.points(0, 2, 2, 6), 3);
        refused(x, "PLACE is there", x.points(0, 1, 1, 0), 3);
        refused(x, "outside", x.points(0, 1, 1, 1), 12);
        refused(x, "below 0", x.points(0, 1, 1, -1), 12);
        refused(x, "greatest", x.points(0, 1, 1, Integer.MAX_VALUE), 12);
        refused(x, "another sort", x.points(0, 1, 0, 0), 11);
        refused(x, "another sort, outside", x.points(0, 1, 2, 9), 11);
        refused(x, "missing", x.points(0, 3, 0, 0), 10);
        refused(x, "no such sort", x.points(0, 1, 3, 0), 1);
        refused(x, "sort -1", x.points(0, 1, -1, 0), 1);
        refused(x, "no such SET", x.points(6, 1, 1, 0), 1);
        refused(x, "no such SHEET", x.points(0, 4, 1, 0), 1);
        refused(x, "SHEET -1", x.points(0, -1, 1, 0), 1);
        due("count(2)", x.count(2), 2);
        row(x, 1, -6, 0, 0, 0, 0, 0, 0, 0, 0, 0, 0, 0, 0);
        refused(x, "full", x.points(1, 1, 1, 0), 2);
        refused(x, "full, missing", x.points(1, 3, 1, 0), 2);
        refused(x, "full, another sort", x.points(1, 1, 0, 0), 2);
        refused(x, "full, no such sort", x.points(1, 1, 3, 0), 1);
    }

    // Promise 30: 0 and 4
    private static void forgeKinds() {
        // By FIT, then by the KIND that it is taken for.
        boolean[][] is = {
            {true, false, false, false, false},
            {true, true, false, false, false},
            {true, true, true, false, false},
            {true, false, false, true, false},
            {true, true, false, false, true}
        };
        for (int f = 0; f < 5; f++) {
            LevelFits x = oneOfEachKind();
            for (int kind = 0; kind < 5; kind++) {
                for (int n = kind - 100; n <= 100; n += 25) {
                    forgeKind(x, n, f, is[f][kind], f);
                    forgeKind(x, n, f - 100, is[f][kind], f);
                    forgeKind(x, n, f + 90, is[f][kind], f);
                }
            }
            if (is[f][1]) {
                isDone(x, "forge(4, 0, " + f + ")", x.forge(4, 0, f), f);
                isDone(x, "forge(4, 7, " + (f - 50) + ")", x.forge(4, 7, f - 50), f);
            } else {
                refused(x, "forge(4, 0, " + f + ")", x.forge(4, 0, f), 14);
            }
        }
        LevelFits x = oneOfEachKind();
        refused(x, "no such FIT", x.forge(0, 0, 5), 10);
        refused(x, "no such FIT, -1", x.forge(0, 0, -1), 10);
        isDone(x, "no such FIT in a row", x.forge(4, 0, 5), 0);
    }

    private static void forgeKind(LevelFits x, int n, int k, boolean is, int kind) {
        String call = "forge(0, " + n + ", " + k + ")";
        if (is) {
            isDone(x, call, x.forge(0, n, k), kind);
        } else {
            refused(x, call, x.forge(0, n, k), 11);
        }
    }

    // Promise 30: 1, 2 and 3
    private static void forgeRowsAndSheets() {
        LevelFits x = new LevelFits();
        isDone(x, "forge(1, 0, 0)", x.forge(1, 0, 0), 0);
        isDone(x, "forge(1, 100, 0)", x.forge(1, 100, 0), 100);
        refused(x, "forge(1, -1, 0)", x.forge(1, -1, 0), 13);
        cells(x, 0, 0, 1, 2, 4, 8, 16);
        cells(x, 1, 1, 7, -9);
        cells(x, 2, 0);
        isDone(x, "forge(2, 1, 1)", x.forge(2, 1, 1), -9);
        isDone(x, "forge(2, 0, -3)", x.forge(2, 0, -3), 7);
        refused(x, "forge(2, 2, 1)", x.forge(2, 2, 1), 12);
        refused(x, "forge(2, -1, 1)", x.forge(2, -1, 1), 12);
        refused(x, "forge(2, 0, 0)", x.forge(2, 0, 0), 11);
        refused(x, "forge(2, -1, 0)", x.forge(2, -1, 0), 11);
        refused(x, "forge(2, -1, 3)", x.forge(2, -1, 3), 10);
        isDone(x, "forge(3, 0, 0)", x.forge(3, 0, 0), 0);
        isDone(x, "forge(3, 1, 4)", x.forge(3, 1, 4), 2);
        isDone(x, "forge(3, 3, 0)", x.forge(3, 3, 0), 14);
        refused(x, "forge(3, 4, 0)", x.forge(3, 4, 0), 12);
        refused(x, "forge(3, -1, 0)", x.forge(3, -1, 0), 12);
        refused(x, "forge(3, 0, 2): no numbers at all", x.forge(3, 0, 2), 12);
        refused(x, "forge(3, 1, 1)", x.forge(3, 1, 1), 11);
        refused(x, "forge(3, -1, 1)", x.forge(3, -1, 1), 11);
        refused(x, "forge(3, -1, 3)", x.forge(3, -1, 3), 10);
        cells(x, 2, 0, 5);
        isDone(x, "none of one", x.forge(3, 0, 2), 0);
        refused(x, "one of one, from number 1 on", x.forge(3, 1, 2), 12);
    }

    // Promise 30: 5, 6 and what is wrong
    private static void forgeTheRest() {
        LevelFits x = new LevelFits();
        isDone(x, "forge(5, 7, 0)", x.forge(5, 7, 0), 142);
        isDone(x, "forge(5, -7, 0)", x.forge(5, -7, 0), -142);
        refused(x, "forge(5, 0, 0)", x.forge(5, 0, 0), 15);
        refused(x, "forge(6, 2, 0)", x.forge(6, 2, 0), 10);
        refused(x, "forge(6, -2, 0)", x.forge(6, -2, 0), 10);
        isDone(x, "forge(6, 1, 0)", x.forge(6, 1, 0), 1);
        isDone(x, "forge(6, -1, 0)", x.forge(6, -1, 0), 1);
        refused(x, "forge(7, 0, 0)", x.forge(7, 0, 0), 1);
        refused(x, "forge(-1, 0, 0)", x.forge(-1, 0, 0), 1);
        for (int what = 0; what < 7; what++) {
            refused(x, "n 101", x.forge(what, 101, 0), 1);
            refused(x, "n -101", x.forge(what, -101, 0), 1);
            refused(x, "k 101", x.forge(what, 1, 101), 1);
            refused(x, "k -101", x.forge(what, 1, -101), 1);
        }
    }

    // Promise 31: questions leave it as it is, all other calls set it
    private static void status() {
        LevelFits x = new LevelFits();
        x.drop();
        x.pointTold(9, 9, 9);
        x.count(0);
        x.told(0, 0);
        x.number(0, 0, 0, 0);
        x.value(0, 0, 0);
        x.miss(0, 0, 0);
        x.level(0, 0);
        x.far(0, 0);
        x.begins(0, 0);
        x.turns(0);
        x.low(0, 0, 0);
        x.swap(0, 0);
        x.swaps(0, 0);
        x.against(0, 0);
        x.same(0, 0);
        x.trace(0);
        due("status() after questions", x.status(), 3);
        due("status() again", x.status(), 3);
        isDone(x, "point", x.point(0, 0, 0, 1), 1);
        refused(x, "point", x.point(0, 0, 0, 1), 3);
        isDone(x, "fit", x.fit(0, 0, 0, 0, 1), 0);
        refused(x, "act", x.act(9, 0, 0), 1);
        x.told(0, 0);
        due("status() after a question that has an answer", x.status(), 1);
    }

    /** Later POINTS do not matter to a FIT. */
    private static void keptPoints() {
        LevelFits x = new LevelFits();
        row(x, 0, 0, 0, 0, 3);
        x.line(0, 1);
        x.pieces(0, 0, 0, 1);
        x.take(0, 0);
        x.point(0, 0, 60, 4);
        x.point(0, 7, -60, 4);
        due("POINTS kept", x.told(0, 1), 3);
        levelIs(x, 0, 3, 4);
        due("miss(0, 0, 0)", x.miss(0, 0, 0), 3);
        due("turns(0)", x.turns(0), 7);
        due("low(0, 7, 0)", x.low(0, 7, 0), 3);
        due("low(0, 11, 0)", x.low(0, 11, 0), NO);
        due("value(1, 0, 0)", x.value(1, 0, 0), 0);
        due("act(0, 0, 0)", x.act(0, 0, 0), 4);
    }
}
