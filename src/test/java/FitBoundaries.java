/** Boundary cases of making and dropping FITS: promises 4 to 9, and what the terms say of the KINDS. */
final class FitBoundaries {
    private FitBoundaries() {
    }

    static void all(Sentences s) {
        s.test(0, "FITS 0 .. 9 are numbered as they come", FitBoundaries::numberedAsTheyCome);
        s.test(0, "later POINTS do not matter to it", FitBoundaries::keepsItsPoints);
        s.test(0, "told numbers c0, c1, c2 (-1000 .. 1000)", FitBoundaries::toldNumbers);
        s.test(0, "and d (1 .. 60)", FitBoundaries::toldDivisor);
        s.test(0, "of a DEGREE n 0 .. 2", FitBoundaries::degreesOfLines);
        s.test(0, "of a SET with n + 1 POINTS or fewer: the one of the least degree through all",
            FitBoundaries::throughAll);
        s.test(0, "of all c0 + .. + cn x^n (any fractions) the one of the least LEVEL", FitBoundaries::onePointMore);
        s.test(0, "(0 without POINTS). 2 EVEN", FitBoundaries::linesWithoutPoints);
        s.test(0, "all PLACES being 0 or above", FitBoundaries::evenPlaces);
        s.test(0, "with 1 POINT: its VALUE", FitBoundaries::evenOfOne);
        s.test(0, "without: 0", FitBoundaries::evenOfNone);
        s.test(0, "of all c0 + c1 x^2 the one of the least LEVEL", FitBoundaries::evenOfTwoAndThree);
        s.test(0, "of a DEGREE n 0, 1", FitBoundaries::degreesOfShorts);
        s.test(0, "and BITS b 0 .. 2", FitBoundaries::bitsOfShorts);
        s.test(0, "(c1 0 if n is 0)", FitBoundaries::shortsOfDegreeZero);
        s.test(0, "whole when taken 2^b times", FitBoundaries::wholeByBits);
        s.test(0, "c0 from -64 to 64", FitBoundaries::farthestC0);
        s.test(0, "c1 from -8 to 8", FitBoundaries::farthestC1);
        s.test(0, "of these the one with the least c0, then the least c1", FitBoundaries::leastOfLikeShorts);
        s.test(0, "has a LEVEL of at most t", FitBoundaries::levelOfPieces);
        s.test(0, "a told level t (a fraction, 0 or above)", FitBoundaries::levelZeroOfPieces);
        s.test(0, "each row is as long as it can be, the first one first", FitBoundaries::longestRowsFirst);
        s.test(0, "parted into as few rows of neighbours as can be", FitBoundaries::fewestAndMostPieces);
        s.test(4, "A FIT of told numbers for a SET: its number. STATUS 1", FitBoundaries::fitOfWrongNumbers);
        s.test(4, "STATUS 1, 2.", FitBoundaries::fitWithoutRoom);
        s.test(4, "So all to pieces().", FitBoundaries::noKindHasRoom);
        s.test(5, "A LINE. STATUS 1", FitBoundaries::lineOfWrongNumbers);
        s.test(5, "STATUS 1, 2.", FitBoundaries::lineWithoutRoom);
        s.test(6, "An EVEN one. STATUS 1", FitBoundaries::evenOfWrongNumbers);
        s.test(6, "STATUS 1, 2", FitBoundaries::evenWithoutRoom);
        s.test(6, "3 (a PLACE below 0)", FitBoundaries::evenOfPlaceBelowZero);
        s.test(7, "A SHORT one. STATUS 1", FitBoundaries::shortsOfWrongNumbers);
        s.test(7, "STATUS 1, 2.", FitBoundaries::shortsWithoutRoom);
        s.test(8, "(p 0 .. 10000", FitBoundaries::toldLevelAbove);
        s.test(8, "q 1 .. 1000)", FitBoundaries::toldLevelBelow);
        s.test(8, "STATUS 1, 2.", FitBoundaries::piecesOfWrongNumbersOrWithoutRoom);
        s.test(9, "The latest FIT is no more: its number.", FitBoundaries::dropLatest);
        s.test(9, "STATUS 3 (there is none).", FitBoundaries::dropOfNone);
    }

    private static void tenFits(Run x) {
        for (int i = 0; i < 10; i++) {
            x.call("line", 5, 0);
        }
    }

    private static void constant(Run x, int fit, int value) {
        x.numbers(fit, value, 1, 0, 1, 0, 1);
    }

    // ---- terms of all FITS

    private static void numberedAsTheyCome(Run x) {
        for (int i = 0; i < 10; i += 5) {
            x.done(i, "fit", 0, 0, 0, 0, 1);
            x.done(i + 1, "line", 0, 0);
            x.done(i + 2, "even", 0);
            x.done(i + 3, "shorts", 0, 0, 0);
            x.done(i + 4, "pieces", 0, 0, 0, 1);
        }
        for (int fit = 0; fit < 10; fit++) {
            x.tells(fit % 5, "told", fit, 0);
        }
        for (int fit : Run.beyond(0, 9)) {
            x.tells(-1, "told", fit, 0);
        }
        x.call("drop");
        x.done(9, "line", 0, 0);
        x.tells(1, "told", 9, 0);
    }

    private static void keepsItsPoints(Run x) {
        x.row(0, 0, 0, 4);
        x.oneOfEachKind(0);
        x.call("take", 0, 0);
        x.call("point", 0, 0, 60, 4);
        x.call("point", 0, 2, -60, 4);
        for (int fit = 0; fit < 5; fit++) {
            x.tells(2, "told", fit, 1);
            x.tells(-1000000000000L, "miss", fit, 2, 0);
        }
        x.fraction(0, 1, "miss", 0, 0);
        x.fraction(-2, 1, "miss", 1, 0);
        x.fraction(0, 1, "miss", 2, 0);
        x.fraction(-2, 1, "miss", 3, 0);
        x.fraction(0, 1, "miss", 4, 0);
        x.tells(3, "turns", 1);
        x.fraction(2, 1, "low", 1, 3);
        x.tells(2, "act", 0, 0, 0);
        x.call("take", 0, 0);
        x.call("take", 0, 0);
        x.call("take", 0, 0);
        x.fraction(4, 1, "level", 0);
        x.fraction(2, 1, "level", 1);
        x.fraction(4, 1, "miss", 0, 1);
        x.fraction(2, 1, "miss", 1, 1);
    }

    // ---- FIT

    private static void toldNumbers(Run x) {
        x.done(0, "fit", 0, -1000, -1000, -1000, 1);
        x.numbers(0, -1000, 1, -1000, 1, -1000, 1);
        x.done(1, "fit", 0, 1000, 1000, 1000, 1);
        x.numbers(1, 1000, 1, 1000, 1, 1000, 1);
        x.done(2, "fit", 0, 0, 0, 0, 1);
        for (int number : Run.beyond(-1000, 1000)) {
            x.refused(1, "fit", 0, number, 0, 0, 1);
            x.refused(1, "fit", 0, 0, number, 0, 1);
            x.refused(1, "fit", 0, 0, 0, number, 1);
        }
        x.tells(3, "count", 0);
    }

    private static void toldDivisor(Run x) {
        x.done(0, "fit", 0, 7, 60, -1, 60);
        x.numbers(0, 7, 60, 1, 1, -1, 60);
        x.done(1, "fit", 0, 7, 60, -1, 1);
        x.numbers(1, 7, 1, 60, 1, -1, 1);
        for (int d : Run.beyond(1, 60)) {
            x.refused(1, "fit", 0, 0, 0, 0, d);
        }
        x.tells(2, "count", 0);
    }

    private static void fitOfWrongNumbers(Run x) {
        x.refused(1, "fit", -1, 0, 0, 0, 1);
        x.refused(1, "fit", 6, 0, 0, 0, 1);
        x.refused(1, "fit", 0, -1001, 0, 0, 1);
        x.refused(1, "fit", 0, 1001, 0, 0, 1);
        x.refused(1, "fit", 0, 0, -1001, 0, 1);
        x.refused(1, "fit", 0, 0, 1001, 0, 1);
        x.refused(1, "fit", 0, 0, 0, -1001, 1);
        x.refused(1, "fit", 0, 0, 0, 1001, 1);
        x.refused(1, "fit", 0, 0, 0, 0, 0);
        x.refused(1, "fit", 0, 0, 0, 0, 61);
        x.tells(0, "count", 0);
        x.done(0, "fit", 0, 0, 0, 0, 1);
    }

    private static void fitWithoutRoom(Run x) {
        for (int i = 0; i < 10; i++) {
            x.done(i, "fit", 0, i, 0, 0, 1);
        }
        x.refused(2, "fit", 0, 0, 0, 0, 1);
        x.refused(1, "fit", 6, 0, 0, 0, 1);
        x.refused(1, "fit", 0, 0, 0, 0, 0);
        x.fraction(9, 1, "number", 9, 0, 0);
        x.call("drop");
        x.done(9, "fit", 0, 11, 0, 0, 1);
    }

    private static void noKindHasRoom(Run x) {
        tenFits(x);
        x.refused(2, "fit", 0, 0, 0, 0, 1);
        x.refused(2, "line", 0, 0);
        x.refused(2, "even", 0);
        x.refused(2, "shorts", 0, 0, 0);
        x.refused(2, "pieces", 0, 0, 0, 1);
        x.tells(10, "count", 0);
    }

    // ---- LINE

    private static void degreesOfLines(Run x) {
        x.row(0, 0, 0, 0, 0, 8);
        for (int degree = 0; degree < 3; degree++) {
            x.done(degree, "line", 0, degree);
            x.tells(degree, "told", degree, 2);
        }
        constant(x, 0, 4);
        x.fraction(8, 3, "number", 1, 0, 1);
        x.fraction(2, 1, "number", 2, 0, 2);
        for (int degree : Run.beyond(0, 2)) {
            x.refused(1, "line", 0, degree);
        }
        x.tells(3, "count", 0);
    }

    private static void throughAll(Run x) {
        x.call("point", 0, 3, 7, 4);
        for (int degree = 0; degree < 3; degree++) {
            x.call("line", 0, degree);
            constant(x, degree, 7);
        }
        x.call("point", 0, -3, 5, 3);
        x.call("line", 0, 1);
        x.numbers(3, 6, 1, 1, 3, 0, 1);
        x.call("line", 0, 2);
        x.numbers(4, 6, 1, 1, 3, 0, 1);
        x.call("point", 0, 0, 6, 2);
        x.call("line", 0, 2);
        x.numbers(5, 6, 1, 1, 3, 0, 1);
        x.row(1, 0, 9, 9, 9);
        x.call("line", 1, 2);
        constant(x, 6, 9);
        x.call("take", 1, 0);
        x.call("line", 1, 1);
        constant(x, 7, 9);
        x.row(2, -1, 1, 0, 1);
        x.call("line", 2, 2);
        x.numbers(8, 0, 1, 0, 1, 1, 1);
        for (int fit = 0; fit < 9; fit++) {
            x.fraction(0, 1, "level", fit);
            x.tells(-1, "turns", fit);
        }
    }

    /** With n + 2 POINTS none goes through all, but for those that lie so. */
    private static void onePointMore(Run x) {
        x.row(0, 0, 0, 10);
        x.call("line", 0, 0);
        constant(x, 0, 5);
        x.fraction(5, 1, "level", 0);
        x.row(1, 0, 0, 0, 3);
        x.call("line", 1, 1);
        x.numbers(1, -3, 4, 3, 2, 0, 1);
        x.fraction(3, 4, "level", 1);
        x.row(2, 0, 0, 0, 0, 8);
        x.call("line", 2, 2);
        x.numbers(2, 1, 1, -4, 1, 2, 1);
        x.fraction(1, 1, "level", 2);
        x.row(3, 0, 1, 3, 5, 7);
        x.call("line", 3, 1);
        x.numbers(3, 1, 1, 2, 1, 0, 1);
        x.call("line", 3, 2);
        x.numbers(4, 1, 1, 2, 1, 0, 1);
        x.fraction(0, 1, "level", 4);
        // As far apart and as heavy as can be.
        x.call("point", 4, -12, -60, 4);
        x.call("point", 4, 12, 60, 4);
        x.call("line", 4, 0);
        constant(x, 5, 0);
        x.fraction(240, 1, "level", 5);
        x.call("point", 4, 0, 60, 1);
        x.call("line", 4, 1);
        // 60 at 0 of WEIGHT 1, the others of 4: c0 = 12 and misses of 48.
        x.numbers(6, 12, 1, 5, 1, 0, 1);
        x.fraction(48, 1, "level", 6);
    }

    private static void linesWithoutPoints(Run x) {
        for (int degree = 0; degree < 3; degree++) {
            x.done(degree, "line", 0, degree);
            constant(x, degree, 0);
            x.fraction(0, 1, "level", degree);
            x.fraction(0, 1, "value", degree, 100);
            x.tells(0, "told", degree, 1);
            x.tells(0, "told", degree, 3);
            x.tells(degree, "told", degree, 2);
        }
    }

    private static void lineOfWrongNumbers(Run x) {
        x.refused(1, "line", -1, 0);
        x.refused(1, "line", 6, 0);
        x.refused(1, "line", 0, -1);
        x.refused(1, "line", 0, 3);
        x.tells(0, "count", 0);
        x.done(0, "line", 5, 2);
    }

    private static void lineWithoutRoom(Run x) {
        for (int i = 0; i < 10; i++) {
            x.done(i, "line", 0, i % 3);
        }
        x.refused(2, "line", 0, 0);
        x.refused(1, "line", 0, 3);
        x.refused(1, "line", 6, 0);
        x.call("drop");
        x.done(9, "line", 0, 1);
        x.tells(1, "told", 9, 2);
    }

    // ---- EVEN

    private static void evenPlaces(Run x) {
        x.call("point", 0, 0, 60, 1);
        x.done(0, "even", 0);
        x.call("point", 0, 12, -60, 1);
        x.done(1, "even", 0);
        x.numbers(1, 60, 1, 0, 1, -5, 6);
        x.call("point", 1, -1, 0, 1);
        x.refused(3, "even", 1);
        x.call("point", 1, 5, 0, 1);
        x.refused(3, "even", 1);
    }

    private static void evenOfOne(Run x) {
        x.call("point", 0, 0, -9, 4);
        x.call("even", 0);
        constant(x, 0, -9);
        x.call("point", 1, 12, 9, 4);
        x.call("even", 1);
        constant(x, 1, 9);
        x.fraction(0, 1, "level", 1);
        x.tells(1, "told", 1, 3);
    }

    private static void evenOfNone(Run x) {
        x.done(0, "even", 0);
        constant(x, 0, 0);
        x.fraction(0, 1, "level", 0);
        x.fraction(0, 1, "value", 0, -100);
    }

    private static void evenOfTwoAndThree(Run x) {
        x.row(0, 0, 7, 7);
        x.call("even", 0);
        constant(x, 0, 7);
        x.row(1, 2, 4, 9);
        x.call("even", 1);
        x.numbers(1, 0, 1, 0, 1, 1, 1);
        x.tells(-1, "turns", 1);
        x.row(2, 0, 0, 0, 3);
        x.call("even", 2);
        x.numbers(2, -3, 8, 0, 1, 3, 4);
        x.fraction(3, 8, "level", 2);
    }

    private static void evenOfWrongNumbers(Run x) {
        for (int set : Run.beyond(0, 5)) {
            x.refused(1, "even", set);
        }
        x.tells(0, "count", 0);
        x.done(0, "even", 5);
    }

    private static void evenWithoutRoom(Run x) {
        for (int i = 0; i < 10; i++) {
            x.done(i, "even", 0);
        }
        x.call("point", 1, -12, 0, 1);
        x.refused(2, "even", 0);
        x.refused(2, "even", 1);
        x.refused(1, "even", 6);
        x.call("drop");
        x.refused(3, "even", 1);
        x.done(9, "even", 0);
    }

    private static void evenOfPlaceBelowZero(Run x) {
        x.row(0, 0, 1, 2, 3);
        x.call("point", 0, -1, 5, 1);
        x.refused(3, "even", 0);
        x.tells(0, "count", 0);
        x.call("take", 0, 0);
        x.done(0, "even", 0);
        x.call("point", 1, -12, 5, 1);
        x.refused(3, "even", 1);
        x.call("take", 1, 0);
        x.done(1, "even", 1);
    }

    // ---- SHORT

    private static void degreesOfShorts(Run x) {
        x.row(0, 0, 0, 2);
        x.done(0, "shorts", 0, 0, 0);
        x.tells(0, "told", 0, 2);
        constant(x, 0, 1);
        x.done(1, "shorts", 0, 1, 0);
        x.tells(1, "told", 1, 2);
        x.numbers(1, 0, 1, 2, 1, 0, 1);
        for (int degree : Run.beyond(0, 1)) {
            x.refused(1, "shorts", 0, degree, 0);
        }
        x.tells(2, "count", 0);
    }

    private static void bitsOfShorts(Run x) {
        x.row(0, 0, 0, 1);
        for (int bits = 0; bits < 3; bits++) {
            x.done(bits, "shorts", 0, 0, bits);
        }
        constant(x, 0, 0);
        x.fraction(1, 2, "number", 1, 0, 0);
        x.fraction(1, 2, "number", 2, 0, 0);
        for (int bits : Run.beyond(0, 2)) {
            x.refused(1, "shorts", 0, 0, bits);
        }
        x.tells(3, "count", 0);
    }

    private static void shortsOfDegreeZero(Run x) {
        x.call("point", 0, 12, 7, 1);
        for (int bits = 0; bits < 3; bits++) {
            x.call("shorts", 0, 0, bits);
            constant(x, bits, 7);
        }
        x.call("shorts", 1, 0, 0);
        constant(x, 3, -64);
    }

    private static void wholeByBits(Run x) {
        x.call("point", 0, 0, 0, 2);
        x.call("point", 0, 1, 2, 1);
        // 2/3 would be best. 0 misses by 0 and 2, 1 by 2 and 1, 1/2 by 1 and 3/2, 3/4 by 3/2 and 5/4.
        x.call("shorts", 0, 0, 0);
        constant(x, 0, 0);
        x.fraction(2, 1, "level", 0);
        x.call("shorts", 0, 0, 1);
        x.numbers(1, 1, 2, 0, 1, 0, 1);
        x.fraction(3, 2, "level", 1);
        x.call("shorts", 0, 0, 2);
        x.numbers(2, 1, 2, 0, 1, 0, 1);
        // x / 4 goes through both.
        x.call("point", 1, 0, 0, 1);
        x.call("point", 1, 4, 1, 1);
        x.call("shorts", 1, 1, 2);
        x.numbers(3, 0, 1, 1, 4, 0, 1);
        x.fraction(0, 1, "level", 3);
        x.call("shorts", 1, 1, 1);
        x.fraction(1, 2, "level", 4);
        x.call("shorts", 1, 1, 0);
        x.fraction(1, 1, "level", 5);
    }

    /** 66 - 6 x would go through both, but 66 is too far. */
    private static void farthestC0(Run x) {
        x.call("point", 0, 4, 42, 1);
        x.call("point", 0, 12, -6, 1);
        x.call("shorts", 0, 1, 0);
        x.numbers(0, 64, 1, -6, 1, 0, 1);
        x.fraction(2, 1, "level", 0);
        x.call("shorts", 0, 1, 2);
        x.numbers(1, 64, 1, -23, 4, 0, 1);
        x.fraction(1, 1, "level", 1);
        x.call("point", 1, 4, -42, 1);
        x.call("point", 1, 12, 6, 1);
        x.call("shorts", 1, 1, 0);
        x.numbers(2, -64, 1, 6, 1, 0, 1);
        x.fraction(2, 1, "level", 2);
        x.call("shorts", 1, 1, 2);
        x.numbers(3, -64, 1, 23, 4, 0, 1);
        // 64 itself can be reached.
        x.call("point", 2, 4, 40, 1);
        x.call("point", 2, 12, -8, 1);
        x.call("shorts", 2, 1, 1);
        x.numbers(4, 64, 1, -6, 1, 0, 1);
        x.fraction(0, 1, "level", 4);
        x.call("point", 3, 4, -40, 1);
        x.call("point", 3, 12, 8, 1);
        x.call("shorts", 3, 1, 1);
        x.numbers(5, -64, 1, 6, 1, 0, 1);
        x.fraction(0, 1, "level", 5);
    }

    private static void farthestC1(Run x) {
        x.row(0, 0, 0, 60);
        x.row(1, 0, 60, 0);
        for (int bits = 0; bits < 3; bits++) {
            x.call("shorts", 0, 1, bits);
            x.numbers(2 * bits, 26, 1, 8, 1, 0, 1);
            x.fraction(26, 1, "level", 2 * bits);
            x.call("shorts", 1, 1, bits);
            x.numbers(2 * bits + 1, 34, 1, -8, 1, 0, 1);
            x.fraction(26, 1, "level", 2 * bits + 1);
        }
    }

    private static void leastOfLikeShorts(Run x) {
        // Without POINTS all are alike.
        x.call("shorts", 0, 1, 0);
        x.numbers(0, -64, 1, -8, 1, 0, 1);
        x.call("shorts", 0, 1, 2);
        x.numbers(1, -64, 1, -8, 1, 0, 1);
        // c0 + c1 = 0: the least c0 takes the greatest c1.
        x.call("point", 1, 1, 0, 1);
        x.call("shorts", 1, 1, 0);
        x.numbers(2, -8, 1, 8, 1, 0, 1);
        // c0 - c1 = 0
        x.call("point", 2, -1, 0, 1);
        x.call("shorts", 2, 1, 0);
        x.numbers(3, -8, 1, -8, 1, 0, 1);
        // At 0 the slope does not matter: the least c1.
        x.call("point", 3, 0, 60, 4);
        x.call("shorts", 3, 1, 2);
        x.numbers(4, 60, 1, -8, 1, 0, 1);
        // 0 and 1 are alike.
        x.row(4, 0, 0, 1);
        x.call("shorts", 4, 0, 0);
        constant(x, 5, 0);
        // c0 + 12 c1 = -60: with a c1 of 1 it would be below -64.
        x.call("point", 5, 12, -60, 1);
        x.call("shorts", 5, 1, 0);
        x.numbers(6, -60, 1, 0, 1, 0, 1);
    }

    private static void shortsOfWrongNumbers(Run x) {
        x.refused(1, "shorts", -1, 0, 0);
        x.refused(1, "shorts", 6, 0, 0);
        x.refused(1, "shorts", 0, -1, 0);
        x.refused(1, "shorts", 0, 2, 0);
        x.refused(1, "shorts", 0, 0, -1);
        x.refused(1, "shorts", 0, 0, 3);
        x.tells(0, "count", 0);
        x.done(0, "shorts", 5, 1, 2);
    }

    private static void shortsWithoutRoom(Run x) {
        for (int i = 0; i < 10; i++) {
            x.done(i, "shorts", 0, i % 2, i % 3);
        }
        x.refused(2, "shorts", 0, 0, 0);
        x.refused(1, "shorts", 0, 2, 0);
        x.refused(1, "shorts", 0, 0, 3);
        x.refused(1, "shorts", 6, 0, 0);
        x.call("drop");
        x.done(9, "shorts", 0, 1, 2);
    }

    // ---- PIECES

    private static void levelOfPieces(Run x) {
        x.row(0, 0, 0, 1);
        x.call("pieces", 0, 0, 1, 2);
        x.tells(1, "told", 0, 4);
        x.call("pieces", 0, 0, 500, 1000);
        x.tells(1, "told", 1, 4);
        x.call("pieces", 0, 0, 499, 1000);
        x.tells(2, "told", 2, 4);
        x.row(1, 0, 0, 0, 3);
        x.call("pieces", 1, 1, 3, 4);
        x.tells(1, "told", 3, 4);
        x.call("pieces", 1, 1, 749, 999);
        x.tells(2, "told", 4, 4);
        x.row(2, 0, 0, 0, 0, 8);
        x.call("pieces", 2, 2, 1, 1);
        x.tells(1, "told", 5, 4);
        x.call("pieces", 2, 2, 999, 1000);
        x.tells(2, "told", 6, 4);
        x.tells(3, "begins", 6, 1);
        // The WEIGHT counts: 0 and 1 of WEIGHT 4 have a LEVEL of 2.
        x.call("point", 3, 0, 0, 4);
        x.call("point", 3, 1, 1, 4);
        x.call("pieces", 3, 0, 2, 1);
        x.tells(1, "told", 7, 4);
        x.call("pieces", 3, 0, 1999, 1000);
        x.tells(2, "told", 8, 4);
    }

    private static void levelZeroOfPieces(Run x) {
        x.row(0, 0, 0, 1, 0, 1, 0, 1, 0, 1, 0, 1, 0, 1);
        int[] pieces = {12, 6, 4};
        for (int degree = 0; degree < 3; degree++) {
            x.done(degree, "pieces", 0, degree, 0, 1);
            x.tells(pieces[degree], "told", degree, 4);
            x.fraction(0, 1, "level", degree);
            x.tells(12 - 12 / pieces[degree], "begins", degree, pieces[degree] - 1);
            x.tells(-1, "begins", degree, pieces[degree]);
        }
        x.row(1, 0, 7, 7, 7, 7);
        x.call("pieces", 1, 0, 0, 1000);
        x.tells(1, "told", 3, 4);
    }

    private static void longestRowsFirst(Run x) {
        x.row(0, 0, 0, 1, 2, 3);
        x.call("pieces", 0, 0, 1, 1);
        x.tells(2, "told", 0, 4);
        x.tells(0, "begins", 0, 0);
        x.tells(3, "begins", 0, 1);
        x.numbers(0, 1, 1, 0, 1, 0, 1);
        x.fraction(3, 1, "number", 0, 1, 0);
        x.row(1, 0, 0, 2, 4, 6, 8);
        x.call("pieces", 1, 0, 1, 1);
        x.tells(3, "told", 1, 4);
        x.tells(2, "begins", 1, 1);
        x.tells(4, "begins", 1, 2);
        // The last row has one POINT left: its LINE is of the least degree.
        x.row(2, 0, 0, 1, 0, 1, 5);
        x.call("pieces", 2, 1, 0, 1);
        x.tells(3, "told", 2, 4);
        x.fraction(5, 1, "number", 2, 2, 0);
        x.fraction(0, 1, "number", 2, 2, 1);
    }

    private static void fewestAndMostPieces(Run x) {
        x.done(0, "pieces", 0, 0, 0, 1);
        x.tells(0, "told", 0, 4);
        x.tells(-1, "begins", 0, 0);
        x.call("point", 0, 3, 9, 4);
        x.done(1, "pieces", 0, 2, 0, 1);
        x.tells(1, "told", 1, 4);
        constant(x, 1, 9);
        x.row(1, 0, -60, 60, -60, 60, -60, 60, -60, 60, -60, 60, -60, 60);
        x.done(2, "pieces", 1, 0, 60, 1);
        x.tells(1, "told", 2, 4);
        x.done(3, "pieces", 1, 0, 59, 1);
        x.tells(12, "told", 3, 4);
        x.tells(11, "begins", 3, 11);
        x.fraction(60, 1, "number", 3, 11, 0);
    }

    private static void toldLevelAbove(Run x) {
        x.row(0, 0, 0, 20);
        x.done(0, "pieces", 0, 0, 10000, 1);
        x.tells(1, "told", 0, 4);
        x.done(1, "pieces", 0, 0, 10000, 1000);
        x.tells(1, "told", 1, 4);
        x.done(2, "pieces", 0, 0, 0, 1);
        x.tells(2, "told", 2, 4);
        for (int p : Run.beyond(0, 10000)) {
            x.refused(1, "pieces", 0, 0, p, 1);
        }
        x.tells(3, "count", 0);
    }

    private static void toldLevelBelow(Run x) {
        x.row(0, 0, 0, 20);
        x.done(0, "pieces", 0, 0, 10, 1);
        x.tells(1, "told", 0, 4);
        x.done(1, "pieces", 0, 0, 9999, 1000);
        x.tells(2, "told", 1, 4);
        for (int q : Run.beyond(1, 1000)) {
            x.refused(1, "pieces", 0, 0, 10, q);
        }
        x.tells(2, "count", 0);
    }

    private static void piecesOfWrongNumbersOrWithoutRoom(Run x) {
        x.refused(1, "pieces", -1, 0, 1, 1);
        x.refused(1, "pieces", 6, 0, 1, 1);
        x.refused(1, "pieces", 0, 0, -1, 1);
        x.refused(1, "pieces", 0, 0, 10001, 1);
        x.refused(1, "pieces", 0, 0, 1, 0);
        x.refused(1, "pieces", 0, 0, 1, 1001);
        for (int degree : Run.beyond(0, 2)) {
            x.refused(1, "pieces", 0, degree, 1, 1);
        }
        for (int i = 0; i < 10; i++) {
            x.done(i, "pieces", 0, i % 3, 0, 1);
        }
        x.refused(2, "pieces", 0, 0, 1, 1);
        x.refused(1, "pieces", 0, 3, 1, 1);
        x.refused(1, "pieces", 0, 0, 1, 0);
        x.call("drop");
        x.done(9, "pieces", 0, 0, 1, 1);
    }

    // ---- drop

    private static void dropLatest(Run x) {
        tenFits(x);
        for (int fit = 9; fit >= 0; fit--) {
            x.done(fit, "drop");
            x.tells(-1, "told", fit, 0);
            x.tells(fit, "count", 0);
        }
        x.done(0, "fit", 0, 1, 2, 3, 1);
        x.tells(0, "told", 0, 0);
        x.numbers(0, 1, 1, 2, 1, 3, 1);
    }

    private static void dropOfNone(Run x) {
        x.refused(3, "drop");
        x.call("line", 0, 0);
        x.done(0, "drop");
        x.refused(3, "drop");
        x.tells(0, "count", 0);
        x.done(0, "line", 0, 0);
    }
}
