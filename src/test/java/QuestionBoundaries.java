/** Boundary cases of the questions about FITS: promises 12 to 18, 23 and 24, and what the terms say of them. */
final class QuestionBoundaries {
    private static final long NO = -1000000000000L;

    private QuestionBoundaries() {
    }

    static void all(Sentences s) {
        s.test(0, "FRACTIONS are told in lowest terms, below the line above 0", QuestionBoundaries::lowestTerms);
        s.test(0, "(what 0: above the line, 1: below it)", QuestionBoundaries::whatOfFractions);
        s.test(0, "Its LEVEL: the greatest size of its MISSES (0 without POINTS)", QuestionBoundaries::levels);
        s.test(0, "A POINT is FAR if its MISS has that size", QuestionBoundaries::allAreFarAtLevelZero);
        s.test(0, "It tells at x what the last PIECE tells whose first PLACE is not above x",
            QuestionBoundaries::lastPieceNotAbove);
        s.test(0, "(the first PIECE for lesser x", QuestionBoundaries::firstPieceForLesser);
        s.test(0, "0 without POINTS)", QuestionBoundaries::piecesWithoutPoints);
        s.test(0, "NONE is -1; NO, where -1 may be an answer, -1000000000000", QuestionBoundaries::constants);
        s.test(12, "0 KIND", QuestionBoundaries::toldKind);
        s.test(12, "1 POINTS", QuestionBoundaries::toldPoints);
        s.test(12, "2 DEGREE (of FIT 2, of EVEN 2)", QuestionBoundaries::toldDegree);
        s.test(12, "3 POINTS that are FAR", QuestionBoundaries::toldFar);
        s.test(12, "4 PIECES (of others 1; 0 without POINTS in PIECES)", QuestionBoundaries::toldPieces);
        s.test(12, "-1: no such.", QuestionBoundaries::toldOfNone);
        s.test(13, "of others piece does not matter", QuestionBoundaries::pieceOfOthers);
        s.test(13, "of a PIECES one of its PIECE piece", QuestionBoundaries::pieceOfPieces);
        s.test(13, "for x to the power (0 .. 2): what 0, 1. NO: no such.", QuestionBoundaries::numberOfNone);
        s.test(14, "What a FIT tells at x (-100 .. 100)", QuestionBoundaries::valueAtTheEdges);
        s.test(14, "NO: no such.", QuestionBoundaries::valueOfNone);
        s.test(15, "The MISS of a FIT at its POINT i", QuestionBoundaries::missAtTheEdges);
        s.test(15, "NO: no such.", QuestionBoundaries::missOfNone);
        s.test(16, "The LEVEL of a FIT", QuestionBoundaries::greatestLevel);
        s.test(16, "NO: no such.", QuestionBoundaries::levelOfNone);
        s.test(17, "The number of its k-th POINT that is FAR.", QuestionBoundaries::farPoints);
        s.test(17, "-1: none such.", QuestionBoundaries::farOfNone);
        s.test(18, "The first POINT of a PIECE.", QuestionBoundaries::beginsAtTheEdges);
        s.test(18, "-1: none such PIECE", QuestionBoundaries::beginsOfNoPiece);
        s.test(18, "or it is no FIT of PIECES", QuestionBoundaries::beginsOfOthers);
        s.test(23, "less than (-1), as great as (0), greater than (1)", QuestionBoundaries::againstNearOnes);
        s.test(23, "-2: no such.", QuestionBoundaries::againstNone);
        s.test(24, "Whether two FITS (none of PIECES) have the same numbers: 1, 0.", QuestionBoundaries::sameNumbers);
        s.test(24, "have the same numbers: 1, 0.", QuestionBoundaries::sameButForOne);
        s.test(24, "-1: no such.", QuestionBoundaries::sameOfNone);
    }

    // ---- terms

    private static void lowestTerms(Run x) {
        x.call("fit", 0, -6, 0, 4, 12);
        x.numbers(0, -1, 2, 0, 1, 1, 3);
        // -6/12 + 4/12 = -1/6, and at 2 it is 10/12.
        x.fraction(-1, 6, "value", 0, 1);
        x.fraction(5, 6, "value", 0, -2);
        x.call("point", 1, 0, -1, 2);
        x.call("fit", 1, 6, 0, 0, 12);
        x.fraction(-3, 1, "miss", 1, 0);
        x.fraction(3, 1, "level", 1);
        x.call("fit", 1, -12, 0, 0, 12);
        x.fraction(0, 1, "miss", 2, 0);
        x.fraction(0, 1, "level", 2);
        x.row(2, 0, 3, 0);
        x.call("line", 2, 0);
        x.fraction(3, 2, "low", 3, 3);
        x.row(3, 0, 0, -4, 0);
        x.call("line", 3, 0);
        x.fraction(0, 1, "low", 4, 5);
        x.fraction(2, 1, "low", 4, 3);
        x.fraction(-2, 1, "number", 4, 0, 0);
    }

    private static void whatOfFractions(Run x) {
        x.row(0, 0, 0, 1);
        x.call("line", 0, 0);
        for (int what : Run.beyond(0, 1)) {
            x.tells(NO, "number", 0, 0, 0, what);
            x.tells(NO, "value", 0, 0, what);
            x.tells(NO, "miss", 0, 0, what);
            x.tells(NO, "level", 0, what);
            x.tells(NO, "low", 0, 3, what);
        }
        x.fraction(1, 2, "number", 0, 0, 0);
        x.fraction(1, 2, "value", 0, 0);
        x.fraction(-1, 2, "miss", 0, 0);
        x.fraction(1, 2, "level", 0);
        x.fraction(1, 2, "low", 0, 3);
    }

    private static void levels(Run x) {
        x.call("fit", 0, 1000, 1000, 1000, 1);
        x.call("line", 0, 2);
        x.call("even", 0);
        x.call("shorts", 0, 1, 2);
        x.call("pieces", 0, 2, 0, 1);
        for (int fit = 0; fit < 5; fit++) {
            x.fraction(0, 1, "level", fit);
        }
        // The greatest size is below 0, above 0, and by its WEIGHT.
        x.row(1, 0, 5, -6);
        x.call("fit", 1, 0, 0, 0, 1);
        x.fraction(6, 1, "level", 5);
        x.row(2, 0, 6, -5);
        x.call("fit", 2, 0, 0, 0, 1);
        x.fraction(6, 1, "level", 6);
        x.call("point", 3, 0, 10, 1);
        x.call("point", 3, 1, 3, 4);
        x.call("fit", 3, 0, 0, 0, 1);
        x.fraction(12, 1, "level", 7);
    }

    private static void allAreFarAtLevelZero(Run x) {
        x.row(0, 0, 0, 1, 2, 3, 4, 5, 6, 7, 8, 9, 10, 11);
        x.call("line", 0, 1);
        x.call("pieces", 0, 0, 0, 1);
        for (int fit = 0; fit < 2; fit++) {
            x.tells(12, "told", fit, 3);
            x.tells(0, "far", fit, 0);
            x.tells(11, "far", fit, 11);
            x.tells(-1, "far", fit, 12);
        }
        // Sizes that differ by 1/60 alone are not alike.
        x.row(1, 0, 0, 1);
        x.call("fit", 1, 29, 1, 0, 60);
        x.tells(1, "told", 2, 3);
        x.tells(1, "far", 2, 0);
        x.call("fit", 1, 30, 0, 0, 60);
        x.tells(2, "told", 3, 3);
    }

    /** PIECES from -5, 0 and 5 on that tell 1, 2 and 3. */
    private static void threePieces(Run x) {
        x.call("point", 0, -5, 1, 1);
        x.call("point", 0, 0, 2, 1);
        x.call("point", 0, 5, 3, 1);
        x.call("pieces", 0, 0, 0, 1);
    }

    private static void lastPieceNotAbove(Run x) {
        threePieces(x);
        x.fraction(1, 1, "value", 0, -5);
        x.fraction(1, 1, "value", 0, -1);
        x.fraction(2, 1, "value", 0, 0);
        x.fraction(2, 1, "value", 0, 4);
        x.fraction(3, 1, "value", 0, 5);
        x.fraction(3, 1, "value", 0, 6);
        x.fraction(3, 1, "value", 0, 100);
        for (int i = 0; i < 3; i++) {
            x.fraction(0, 1, "miss", 0, i);
        }
    }

    private static void firstPieceForLesser(Run x) {
        threePieces(x);
        x.fraction(1, 1, "value", 0, -6);
        x.fraction(1, 1, "value", 0, -100);
        x.row(1, 10, 0, 1, 5);
        x.call("pieces", 1, 1, 0, 1);
        x.fraction(-110, 1, "value", 1, -100);
        x.fraction(-1, 1, "value", 1, 9);
        x.fraction(5, 1, "value", 1, 12);
    }

    private static void piecesWithoutPoints(Run x) {
        x.call("pieces", 0, 2, 1, 1);
        for (int place : new int[] {-100, -1, 0, 1, 100}) {
            x.fraction(0, 1, "value", 0, place);
        }
        x.fraction(0, 1, "level", 0);
        x.tells(0, "told", 0, 3);
        x.tells(0, "told", 0, 4);
        x.tells(NO, "number", 0, 0, 0, 0);
        x.tells(-1, "begins", 0, 0);
        x.tells(-1, "far", 0, 0);
    }

    private static void constants(Run x) {
        x.holds("NONE", LevelFits.NONE == -1);
        x.holds("NO", LevelFits.NO == -1000000000000L);
        // Where -1 is an answer, it is not NO.
        x.call("point", 0, -1, -1, 1);
        x.call("fit", 0, -1, 0, 0, 1);
        x.call("fit", 0, 0, 0, 0, 1);
        x.tells(-1, "number", 0, 0, 0, 0);
        x.tells(-1, "value", 0, 0, 0);
        x.tells(-1, "miss", 1, 0, 0);
        x.tells(-1, "pointTold", 0, 0, 0);
    }

    // ---- promise 12

    private static void toldKind(Run x) {
        x.oneOfEachKind(0);
        for (int fit = 0; fit < 5; fit++) {
            x.tells(fit, "told", fit, 0);
        }
    }

    private static void toldPoints(Run x) {
        x.oneOfEachKind(0);
        x.row(0, 0, 1, 2, 3, 4, 5, 6, 7, 8, 9, 10, 11, 12);
        x.oneOfEachKind(0);
        for (int fit = 0; fit < 10; fit++) {
            x.tells(fit < 5 ? 0 : 12, "told", fit, 1);
        }
    }

    /** The DEGREE that was told, whatever its numbers are. */
    private static void toldDegree(Run x) {
        x.call("fit", 0, 0, 0, 0, 1);
        x.tells(2, "told", 0, 2);
        x.call("even", 0);
        x.tells(2, "told", 1, 2);
        for (int degree = 0; degree < 3; degree++) {
            x.call("line", 0, degree);
            x.tells(degree, "told", 2 + degree, 2);
            x.call("drop");
            x.call("pieces", 0, degree, 0, 1);
            x.tells(degree, "told", 2 + degree, 2);
        }
        for (int degree = 0; degree < 2; degree++) {
            x.call("shorts", 0, degree, 0);
            x.tells(degree, "told", 5 + degree, 2);
        }
    }

    private static void toldFar(Run x) {
        x.oneOfEachKind(0);
        for (int fit = 0; fit < 5; fit++) {
            x.tells(0, "told", fit, 3);
        }
        x.row(1, 0, 3, -3, 2, 3);
        x.call("fit", 1, 0, 0, 0, 1);
        x.tells(3, "told", 5, 3);
        x.row(2, 0, 1);
        x.call("fit", 2, 0, 0, 0, 1);
        x.tells(1, "told", 6, 3);
    }

    private static void toldPieces(Run x) {
        x.oneOfEachKind(0);
        int[] without = {1, 1, 1, 1, 0};
        for (int fit = 0; fit < 5; fit++) {
            x.tells(without[fit], "told", fit, 4);
        }
        x.row(0, 0, 0, 9, 0);
        x.oneOfEachKind(0);
        int[] with = {1, 1, 1, 1, 3};
        for (int fit = 0; fit < 5; fit++) {
            x.tells(with[fit], "told", 5 + fit, 4);
        }
    }

    private static void toldOfNone(Run x) {
        x.tells(-1, "told", 0, 0);
        x.call("line", 0, 0);
        x.call("line", 0, 0);
        for (int fit : Run.beyond(0, 1)) {
            for (int what = 0; what < 5; what++) {
                x.tells(-1, "told", fit, what);
            }
        }
        for (int what : Run.beyond(0, 4)) {
            x.tells(-1, "told", 0, what);
        }
        x.call("drop");
        x.tells(-1, "told", 1, 0);
    }

    // ---- promises 13 to 16

    private static void pieceOfOthers(Run x) {
        x.row(0, 0, 8);
        x.call("fit", 0, 7, 0, 0, 1);
        x.call("line", 0, 0);
        x.call("even", 0);
        x.call("shorts", 0, 0, 0);
        int[] numbers = {7, 8, 8, 8};
        for (int fit = 0; fit < 4; fit++) {
            for (int piece : Run.beyond(0, 0)) {
                x.tells(numbers[fit], "number", fit, piece, 0, 0);
            }
        }
    }

    private static void pieceOfPieces(Run x) {
        threePieces(x);
        for (int piece = 0; piece < 3; piece++) {
            x.fraction(piece + 1, 1, "number", 0, piece, 0);
            x.fraction(0, 1, "number", 0, piece, 1);
            x.fraction(0, 1, "number", 0, piece, 2);
        }
        for (int piece : Run.beyond(0, 2)) {
            x.tells(NO, "number", 0, piece, 0, 0);
        }
        x.call("pieces", 1, 0, 0, 1);
        x.tells(NO, "number", 1, 0, 0, 0);
        x.tells(NO, "number", 1, -1, 0, 0);
    }

    private static void numberOfNone(Run x) {
        x.tells(NO, "number", 0, 0, 0, 0);
        x.call("fit", 0, 1, 2, 3, 1);
        x.numbers(0, 1, 1, 2, 1, 3, 1);
        for (int power : Run.beyond(0, 2)) {
            x.tells(NO, "number", 0, 0, power, 0);
        }
        for (int what : Run.beyond(0, 1)) {
            x.tells(NO, "number", 0, 0, 0, what);
        }
        for (int fit : Run.beyond(0, 0)) {
            x.tells(NO, "number", fit, 0, 0, 0);
        }
    }

    private static void valueAtTheEdges(Run x) {
        x.call("fit", 0, -1000, 1000, 1000, 1);
        x.fraction(10099000, 1, "value", 0, 100);
        x.fraction(9899000, 1, "value", 0, -100);
        x.fraction(-1000, 1, "value", 0, 0);
        x.call("fit", 0, 1, 0, 1000, 60);
        x.fraction(10000001, 60, "value", 1, -100);
        for (int place : Run.beyond(-100, 100)) {
            x.tells(NO, "value", 0, place, 0);
        }
        // Beyond all PLACES, by the greatest fractions.
        x.row(0, -12, -60, 60, -60);
        x.call("line", 0, 2);
        // -120 (x + 11)^2 + 60
        x.fraction(-1478460, 1, "value", 2, 100);
        x.fraction(-950460, 1, "value", 2, -100);
    }

    private static void valueOfNone(Run x) {
        x.tells(NO, "value", 0, 0, 0);
        x.call("line", 0, 0);
        x.tells(0, "value", 0, 0, 0);
        for (int fit : Run.beyond(0, 0)) {
            x.tells(NO, "value", fit, 0, 0);
        }
        for (int what : Run.beyond(0, 1)) {
            x.tells(NO, "value", 0, 0, what);
        }
        x.call("drop");
        x.tells(NO, "value", 0, 0, 0);
    }

    private static void missAtTheEdges(Run x) {
        x.call("point", 0, -12, -60, 4);
        x.call("point", 0, 12, 60, 1);
        x.call("fit", 0, 1000, 1000, 1000, 1);
        x.fraction(-4 * (60 + 1000 - 12000 + 144000), 1, "miss", 0, 0);
        x.fraction(60 - 1000 - 12000 - 144000, 1, "miss", 0, 1);
        x.fraction(532240, 1, "level", 0);
        x.row(1, 0, 1, 2, 3, 4, 5, 6, 7, 8, 9, 10, 11, 12);
        x.call("fit", 1, 0, 0, 0, 1);
        x.fraction(1, 1, "miss", 1, 0);
        x.fraction(12, 1, "miss", 1, 11);
        x.tells(NO, "miss", 1, 12, 0);
    }

    private static void missOfNone(Run x) {
        x.call("line", 0, 0);
        x.tells(NO, "miss", 0, 0, 0);
        x.tells(NO, "miss", 1, 0, 0);
        x.row(0, 0, 1, 2);
        // FIT 0 came ahead of them.
        x.tells(NO, "miss", 0, 0, 0);
        x.call("line", 0, 1);
        for (int i : Run.beyond(0, 1)) {
            x.tells(NO, "miss", 1, i, 0);
        }
        for (int what : Run.beyond(0, 1)) {
            x.tells(NO, "miss", 1, 0, what);
        }
        for (int fit : Run.beyond(0, 1)) {
            x.tells(NO, "miss", fit, 0, 0);
        }
    }

    private static void greatestLevel(Run x) {
        x.call("point", 0, 12, -60, 4);
        x.call("fit", 0, 1000, 1000, 1000, 1);
        x.fraction(4 * 157060, 1, "level", 0);
        x.call("fit", 0, 1000, 1000, 999, 59);
        x.fraction(4 * (156856 + 60 * 59), 59, "level", 1);
    }

    private static void levelOfNone(Run x) {
        x.tells(NO, "level", 0, 0);
        x.call("fit", 0, 0, 0, 0, 1);
        x.fraction(0, 1, "level", 0);
        for (int fit : Run.beyond(0, 0)) {
            x.tells(NO, "level", fit, 0);
        }
        for (int what : Run.beyond(0, 1)) {
            x.tells(NO, "level", 0, what);
        }
    }

    // ---- promises 17 and 18

    private static void farPoints(Run x) {
        x.row(0, -6, -9, 0, 9, 8, -9, 0, 0, 0, 0, 0, 0, 9);
        x.call("fit", 0, 0, 0, 0, 1);
        int[] found = {0, 2, 4, 11};
        for (int k = 0; k < found.length; k++) {
            x.tells(found[k], "far", 0, k);
        }
        x.tells(-1, "far", 0, 4);
        x.tells(4, "told", 0, 3);
    }

    private static void farOfNone(Run x) {
        x.tells(-1, "far", 0, 0);
        x.call("line", 0, 0);
        x.tells(-1, "far", 0, 0);
        x.tells(-1, "far", 0, -1);
        x.row(0, 0, 1, 0);
        x.call("fit", 0, 0, 0, 0, 1);
        x.tells(0, "far", 1, 0);
        for (int k : Run.beyond(0, 0)) {
            x.tells(-1, "far", 1, k);
        }
        for (int fit : Run.beyond(0, 1)) {
            x.tells(-1, "far", fit, 0);
        }
    }

    private static void beginsAtTheEdges(Run x) {
        x.row(0, 0, 0, 9, 0, 9, 0, 9, 0, 9, 0, 9, 0, 9);
        x.call("pieces", 0, 0, 0, 1);
        for (int piece = 0; piece < 12; piece++) {
            x.tells(piece, "begins", 0, piece);
        }
        x.tells(-1, "begins", 0, 12);
        x.call("point", 1, -12, 5, 1);
        x.call("pieces", 1, 2, 0, 1);
        x.tells(0, "begins", 1, 0);
        x.tells(-1, "begins", 1, 1);
    }

    private static void beginsOfNoPiece(Run x) {
        threePieces(x);
        for (int piece : Run.beyond(0, 2)) {
            x.tells(-1, "begins", 0, piece);
        }
        for (int fit : Run.beyond(0, 0)) {
            x.tells(-1, "begins", fit, 0);
        }
        x.call("pieces", 1, 0, 1, 1);
        x.tells(-1, "begins", 1, 0);
    }

    private static void beginsOfOthers(Run x) {
        x.row(0, 0, 1, 2, 3);
        x.oneOfEachKind(0);
        for (int fit = 0; fit < 4; fit++) {
            x.tells(-1, "begins", fit, 0);
        }
        x.tells(0, "begins", 4, 0);
    }

    // ---- promises 23 and 24

    private static void againstNearOnes(Run x) {
        x.row(0, 0, 0);
        // 1000/59 and 999/59 lie on both sides of 983/58.
        x.call("fit", 0, 1000, 0, 0, 59);
        x.call("fit", 0, -999, 0, 0, 59);
        x.call("fit", 0, 983, 0, 0, 58);
        x.call("fit", 0, -1000, 0, 0, 59);
        x.call("fit", 1, 1000, 0, 0, 1);
        x.tells(1, "against", 0, 2);
        x.tells(-1, "against", 2, 0);
        x.tells(-1, "against", 1, 2);
        x.tells(1, "against", 2, 1);
        x.tells(0, "against", 0, 3);
        x.tells(0, "against", 2, 2);
        // FIT 4 has no POINTS.
        x.tells(-1, "against", 4, 1);
        x.tells(1, "against", 1, 4);
        x.tells(0, "against", 4, 4);
        x.call("pieces", 0, 0, 0, 1);
        x.tells(0, "against", 5, 4);
        x.tells(1, "against", 1, 5);
    }

    private static void againstNone(Run x) {
        x.tells(-2, "against", 0, 0);
        x.call("line", 0, 0);
        x.tells(0, "against", 0, 0);
        for (int fit : Run.beyond(0, 0)) {
            x.tells(-2, "against", 0, fit);
            x.tells(-2, "against", fit, 0);
            x.tells(-2, "against", fit, fit);
        }
    }

    private static void sameNumbers(Run x) {
        x.call("fit", 0, 20, 40, 60, 20);
        x.call("fit", 5, 3, 6, 9, 3);
        x.call("fit", 0, 3, 6, 8, 3);
        x.call("fit", 0, -3, -6, -9, 3);
        x.tells(1, "same", 0, 1);
        x.tells(1, "same", 0, 0);
        x.tells(0, "same", 0, 2);
        x.tells(0, "same", 0, 3);
        // 0 is 0 with any d, and of all KINDS.
        x.call("fit", 0, 0, 0, 0, 60);
        x.call("fit", 0, 0, 0, 0, 7);
        x.call("line", 0, 0);
        x.call("even", 0);
        x.row(1, 0, 0);
        x.call("shorts", 1, 0, 0);
        for (int fit = 5; fit < 9; fit++) {
            x.tells(1, "same", 4, fit);
            x.tells(1, "same", fit, 4);
            x.tells(0, "same", fit, 0);
        }
    }

    /** 1/7, 2/7 and 3/7 against ones of which a single told number is another. */
    private static void sameButForOne(Run x) {
        x.call("fit", 0, 1, 2, 3, 7);
        x.call("fit", 0, 2, 2, 3, 7);
        x.call("fit", 0, 1, 3, 3, 7);
        x.call("fit", 0, 1, 2, 4, 7);
        x.call("fit", 0, 1, 2, 3, 8);
        x.call("fit", 0, -1, 2, 3, 7);
        for (int fit = 1; fit < 6; fit++) {
            x.tells(0, "same", 0, fit);
            x.tells(0, "same", fit, 0);
            x.tells(1, "same", fit, fit);
        }
    }

    private static void sameOfNone(Run x) {
        x.tells(-1, "same", 0, 0);
        x.call("fit", 0, 0, 0, 0, 1);
        x.call("pieces", 0, 0, 0, 1);
        x.tells(1, "same", 0, 0);
        x.tells(-1, "same", 0, 1);
        x.tells(-1, "same", 1, 0);
        x.tells(-1, "same", 1, 1);
        for (int fit : Run.beyond(0, 1)) {
            x.tells(-1, "same", 0, fit);
            x.tells(-1, "same", fit, 0);
        }
    }
}
