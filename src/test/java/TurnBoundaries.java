/** Boundary cases of TURNS, their LOW and their SWAPS: promises 19 to 22, and what the terms say of them. */
final class TurnBoundaries {
    private static final long NO = -1000000000000L;
    private static final int[] TWELVE = {0, 4, 10, -6, 2, 9, -9, 3, 0, -1, 5, 7};

    private TurnBoundaries() {
    }

    static void all(Sentences s) {
        s.test(0, "TURNS of a LINE or EVEN FIT (not of PIECES)", TurnBoundaries::onlyOfLinesAndEvens);
        s.test(0, "sets of POINTS, told as bits (bit i: POINT i)", TurnBoundaries::bitsOfPoints);
        s.test(0, "as many as it has free numbers (n + 1; EVEN: 2) and one more", TurnBoundaries::howMany);
        s.test(0, "(It has none with fewer POINTS.)", TurnBoundaries::noneWithFewerPoints);
        s.test(0, "the size of h is their LOW", TurnBoundaries::lowIsASize);
        s.test(0, "THE TURNS of a FIT are those of the greatest LOW", TurnBoundaries::greatestLow);
        s.test(0, "of these the ones whose first POINT has the least number, then the second one, and so on",
            TurnBoundaries::firstOfLikeOnes);
        s.test(0, "(LOW of THE TURNS is the LEVEL, and their polynomial is the FIT.)", TurnBoundaries::lowIsLevel);
        s.test(0, "of like ones the one with the least number, comes in", TurnBoundaries::leastOfLikeComers);
        s.test(0, "comes in, if that size is above their LOW (else nothing changes)", TurnBoundaries::nothingChanges);
        s.test(0, "(if LOW is 0: above, below, above, ..)", TurnBoundaries::signsOfLowZero);
        s.test(0, "If it lies between two of them, that one of both goes whose SIGN is as that of its MISS",
            TurnBoundaries::comerBetween);
        s.test(0, "if it lies ahead of all (behind all): the first (last) one goes, if its SIGN is as that of its MISS",
            TurnBoundaries::comerOutsideOfLikeSign);
        s.test(0, "else the last (first) one", TurnBoundaries::comerOutsideOfOtherSign);
        s.test(19, "THE TURNS of a LINE or EVEN FIT.", TurnBoundaries::turnsOfFullSet);
        s.test(19, "-1: it has none.", TurnBoundaries::turnsOfNone);
        s.test(20, "The LOW of TURNS of a LINE or EVEN FIT: what 0, 1.", TurnBoundaries::lowAtTheEdges);
        s.test(20, "NO: they are no TURNS of it.", TurnBoundaries::lowOfNoTurns);
        s.test(21, "The TURNS that come of SWAPPING TURNS of it.", TurnBoundaries::swapInFullSet);
        s.test(21, "-1: they are no TURNS of it.", TurnBoundaries::swapOfNoTurns);
        s.test(22, "How many SWAPS in a row lead from TURNS to ones that stay as they are.",
            TurnBoundaries::swapsInARow);
        s.test(22, "-1: they are no TURNS of it.", TurnBoundaries::swapsOfNoTurns);
    }

    private static void areTurns(Run x, int fit, int bits) {
        x.holds("low of " + bits, x.call("low", fit, bits, 1) > 0);
        x.holds("swap of " + bits, x.call("swap", fit, bits) > 0);
        x.holds("swaps of " + bits, x.call("swaps", fit, bits) >= 0);
    }

    private static void areNoTurns(Run x, int fit, int bits) {
        x.tells(NO, "low", fit, bits, 0);
        x.tells(-1, "swap", fit, bits);
        x.tells(-1, "swaps", fit, bits);
    }

    /** A LINE of DEGREE 0 over these VALUES: its TURNS i and j tell their middle, and LOW is half of what they differ. */
    private static Run pairs(Run x, int... values) {
        Run y = x.another();
        y.row(0, 0, values);
        y.call("line", 0, 0);
        return y;
    }

    // ---- which are TURNS

    private static void onlyOfLinesAndEvens(Run x) {
        x.row(0, 0, 0, 3, 1);
        x.oneOfEachKind(0);
        areTurns(x, 1, 3);
        areTurns(x, 2, 7);
        for (int fit : new int[] {0, 3, 4}) {
            x.tells(-1, "turns", fit);
            for (int bits = 0; bits < 8; bits++) {
                areNoTurns(x, fit, bits);
            }
        }
    }

    private static void bitsOfPoints(Run x) {
        x.row(0, 0, TWELVE);
        x.call("line", 0, 0);
        // 0 and 7, the first POINT and the last one.
        x.fraction(7, 2, "low", 0, 1 | 1 << 11);
        x.fraction(1, 1, "low", 0, 1 << 10 | 1 << 11);
        areNoTurns(x, 0, 1 | 1 << 12);
        areNoTurns(x, 0, 1 << 11 | 1 << 12);
        areNoTurns(x, 0, 1 | 1 << 30);
        areNoTurns(x, 0, 1 | 1 << 31);
        areNoTurns(x, 0, 1 << 30 | 1 << 31);
        x.row(1, 0, 1, 2, 3);
        x.call("line", 1, 0);
        areTurns(x, 1, 6);
        areNoTurns(x, 1, 9);
        areNoTurns(x, 1, 12);
    }

    private static void howMany(Run x) {
        x.row(0, 0, TWELVE);
        int[] many = {2, 3, 4, 3};
        x.call("line", 0, 0);
        x.call("line", 0, 1);
        x.call("line", 0, 2);
        x.call("even", 0);
        for (int fit = 0; fit < 4; fit++) {
            x.holds("THE TURNS of " + fit, Long.bitCount(x.call("turns", fit)) == many[fit]);
            areTurns(x, fit, (1 << many[fit]) - 1);
            areTurns(x, fit, (1 << many[fit]) - 1 << 12 - many[fit]);
            areNoTurns(x, fit, 0);
            areNoTurns(x, fit, (1 << many[fit] - 1) - 1);
            areNoTurns(x, fit, (1 << many[fit] + 1) - 1);
            areNoTurns(x, fit, 4095);
            areNoTurns(x, fit, -1);
        }
    }

    private static void noneWithFewerPoints(Run x) {
        for (int degree = 0; degree < 3; degree++) {
            Run y = x.another();
            for (int points = 0; points < degree + 2; points++) {
                y.call("line", 0, degree);
                y.tells(-1, "turns", points);
                for (int bits = 0; bits < 16; bits++) {
                    areNoTurns(y, points, bits);
                }
                y.call("point", 0, points, points * points % 3, 1);
            }
            y.call("line", 0, degree);
            y.tells((1 << degree + 2) - 1, "turns", degree + 2);
            areTurns(y, degree + 2, (1 << degree + 2) - 1);
        }
        for (int points = 0; points < 3; points++) {
            x.call("even", 0);
            x.tells(-1, "turns", points);
            areNoTurns(x, points, 3);
            areNoTurns(x, points, 7);
            x.call("point", 0, points, points % 2, 1);
        }
        x.call("even", 0);
        x.tells(7, "turns", 3);
        areTurns(x, 3, 7);
    }

    // ---- THE TURNS

    private static void lowIsASize(Run x) {
        x.row(0, 0, 5, 0, 5, 5);
        x.call("line", 0, 0);
        x.fraction(5, 2, "low", 0, 3);
        x.fraction(5, 2, "low", 0, 6);
        x.fraction(0, 1, "low", 0, 5);
        // Of WEIGHTS 1 and 4: 10 lies 8 from the one and 2, 4 times, from the other.
        x.call("point", 1, 0, 0, 1);
        x.call("point", 1, 1, 10, 4);
        x.call("line", 1, 0);
        x.fraction(8, 1, "low", 1, 3);
    }

    private static void greatestLow(Run x) {
        pairs(x, 1, 0, 4, -60, 60).tells(24, "turns", 0);
        pairs(x, 60, 0, 0, 0, 0, 0, 0, 0, 0, 0, 0, -60).tells(1 | 1 << 11, "turns", 0);
        // The WEIGHT counts: 0 and 4 of WEIGHT 4 are farther apart than 0 and 9 of WEIGHT 1.
        x.call("point", 0, 0, 0, 4);
        x.call("point", 0, 1, 9, 1);
        x.call("point", 0, 2, 4, 4);
        x.call("line", 0, 0);
        x.fraction(36, 5, "low", 0, 3);
        x.fraction(8, 1, "low", 0, 5);
        x.tells(5, "turns", 0);
    }

    private static void firstOfLikeOnes(Run x) {
        pairs(x, 0, 3, 3, 0, 0).tells(3, "turns", 0);
        pairs(x, 1, 0, 4, 0, 4).tells(6, "turns", 0);
        pairs(x, 0, 0, 4, 4).tells(5, "turns", 0);
        pairs(x, 7, 7, 7, 7, 7, 7, 7, 7, 7, 7, 7, 7).tells(3, "turns", 0);
        x.row(0, 0, 0, 2, 2, 0);
        x.call("line", 0, 1);
        x.tells(11, "turns", 0);
        x.row(1, 0, 0, 2, 0, 2, 0);
        x.call("line", 1, 1);
        x.tells(7, "turns", 1);
        x.row(2, -6, 0, 1, 2, 3, 4, 5, 6, 7, 8, 9, 10, 11);
        x.call("line", 2, 1);
        x.tells(7, "turns", 2);
        x.call("line", 2, 2);
        x.tells(15, "turns", 3);
        x.row(3, 0, 0, 1, 4, 9, 16);
        x.call("even", 3);
        x.tells(7, "turns", 4);
        x.row(4, -2, 2, 1, 0, 1, 2);
        x.call("line", 4, 2);
        x.tells(15, "turns", 5);
    }

    private static void lowIsLevel(Run x) {
        x.row(0, 0, TWELVE);
        x.call("line", 0, 0);
        x.call("line", 0, 1);
        x.call("line", 0, 2);
        x.call("even", 0);
        for (int fit = 0; fit < 4; fit++) {
            int turns = (int) x.call("turns", fit);
            x.fraction(x.call("level", fit, 0), x.call("level", fit, 1), "low", fit, turns);
            x.tells(turns, "swap", fit, turns);
            x.tells(0, "swaps", fit, turns);
            // Their MISSES by the FIT are h, -h, h, ..
            long h = 0;
            for (int i = 0; i < 12; i++) {
                if ((turns >> i & 1) == 1) {
                    h = h == 0 ? x.call("miss", fit, i, 0) : -h;
                    x.tells(h, "miss", fit, i, 0);
                }
            }
        }
    }

    // ---- SWAP

    private static void leastOfLikeComers(Run x) {
        // By 1 and -1 the others miss by 6 and -6.
        pairs(x, 6, 1, -1, -6).tells(5, "swap", 0, 6);
        pairs(x, -6, 1, -1, 6).tells(3, "swap", 0, 6);
        pairs(x, 1, -1, -6, -6).tells(5, "swap", 0, 3);
        pairs(x, 1, -1, 6, -6).tells(6, "swap", 0, 3);
        pairs(x, 1, 9, 9, -1).tells(10, "swap", 0, 9);
    }

    private static void nothingChanges(Run x) {
        // As great as LOW is not above it.
        pairs(x, 3, 3, -3).tells(6, "swap", 0, 6);
        pairs(x, -3, 3, -3).tells(6, "swap", 0, 6);
        pairs(x, 3, -3, 3).tells(3, "swap", 0, 3);
        pairs(x, 3, 0, -3).tells(5, "swap", 0, 5);
        pairs(x, 7, 7, 7).tells(3, "swap", 0, 3);
        pairs(x, 7, 7, 7).tells(6, "swap", 0, 6);
        pairs(x, 7, 7).tells(3, "swap", 0, 3);
        // Above it by 1.
        pairs(x, 3, -3, 4).tells(6, "swap", 0, 3);
        x.row(0, 0, 0, 0, 0, 8);
        x.call("line", 0, 2);
        x.tells(15, "swap", 0, 15);
    }

    private static void signsOfLowZero(Run x) {
        pairs(x, 5, 5, 9).tells(6, "swap", 0, 3);
        pairs(x, 5, 5, 1).tells(5, "swap", 0, 3);
        pairs(x, 9, 5, 5).tells(5, "swap", 0, 6);
        pairs(x, 1, 5, 5).tells(3, "swap", 0, 6);
        pairs(x, 5, 9, 5).tells(6, "swap", 0, 5);
        pairs(x, 5, 1, 5).tells(3, "swap", 0, 5);
        // Of DEGREE 1 the third one is above again.
        x.row(0, 0, 0, 0, 0, 5);
        x.call("line", 0, 1);
        x.tells(11, "swap", 0, 7);
        x.row(1, 0, 0, 0, 0, -5);
        x.call("line", 1, 1);
        x.tells(14, "swap", 1, 7);
        x.row(2, 0, 5, 0, 0, 0);
        x.call("line", 2, 1);
        x.tells(13, "swap", 2, 14);
        x.row(3, 0, -5, 0, 0, 0);
        x.call("line", 3, 1);
        x.tells(7, "swap", 3, 14);
        // Of DEGREE 2 the last one is below.
        x.row(4, 0, 0, 0, 0, 0, 5);
        x.call("line", 4, 2);
        x.tells(30, "swap", 4, 15);
        x.row(5, 0, 0, 0, 0, 0, -5);
        x.call("line", 5, 2);
        x.tells(23, "swap", 5, 15);
    }

    private static void comerBetween(Run x) {
        // SIGNS below, above: the last one goes, then the first one.
        pairs(x, 0, 9, 4).tells(3, "swap", 0, 5);
        pairs(x, 0, -9, 4).tells(6, "swap", 0, 5);
        // SIGNS above, below
        pairs(x, 4, 9, 0).tells(6, "swap", 0, 5);
        pairs(x, 4, -9, 0).tells(3, "swap", 0, 5);
        // Of DEGREE 1: 4, 0, 4 tell 2 with SIGNS above, below, above; the comer lies in the first gap, in the second.
        gap(x, 1, 20, 13, 14);
        gap(x, 1, -20, 13, 11);
        gap(x, 3, 20, 11, 7);
        gap(x, 3, -20, 11, 13);
    }

    private static void gap(Run x, int place, int value, int bits, int swapped) {
        Run y = x.another();
        y.call("point", 0, 0, 4, 1);
        y.call("point", 0, 2, 0, 1);
        y.call("point", 0, 4, 4, 1);
        y.call("point", 0, place, value, 1);
        y.call("line", 0, 1);
        y.tells(swapped, "swap", 0, bits);
    }

    private static void comerOutsideOfLikeSign(Run x) {
        pairs(x, 9, 5, 0).tells(5, "swap", 0, 6);
        pairs(x, -9, 0, 5).tells(5, "swap", 0, 6);
        pairs(x, 0, 5, 9).tells(5, "swap", 0, 3);
        pairs(x, 5, 0, -9).tells(5, "swap", 0, 3);
    }

    private static void comerOutsideOfOtherSign(Run x) {
        pairs(x, 9, 0, 5).tells(3, "swap", 0, 6);
        pairs(x, -9, 5, 0).tells(3, "swap", 0, 6);
        pairs(x, 5, 0, 9).tells(6, "swap", 0, 3);
        pairs(x, 0, 5, -9).tells(6, "swap", 0, 3);
    }

    // ---- promises 19 to 22

    private static void turnsOfFullSet(Run x) {
        // TURNS that reach to the last of twelve POINTS.
        x.row(0, -6, 0, 0, 0, 0, 0, 0, 0, 0, 0, 0, 0, 60);
        x.call("line", 0, 0);
        x.tells(1 | 1 << 11, "turns", 0);
        x.row(1, 0, 0, 0, 0, 0, 0, 0, 0, 0, 0, 0, 60, -60);
        x.call("line", 1, 0);
        x.tells(3 << 10, "turns", 1);
        x.row(2, 0, 0, 0, 0, 0, 0, 0, 0, 0, 60, -60, 60, -60);
        x.call("line", 2, 1);
        x.tells(7 << 8, "turns", 2);
        x.call("line", 2, 2);
        x.tells(15 << 8, "turns", 3);
    }

    private static void turnsOfNone(Run x) {
        x.tells(-1, "turns", 0);
        x.row(0, 0, 1, 0, 1);
        x.call("line", 0, 2);
        x.call("fit", 0, 0, 0, 0, 1);
        x.call("shorts", 0, 0, 0);
        x.call("pieces", 0, 0, 60, 1);
        x.call("even", 1);
        x.call("line", 1, 0);
        for (int fit = 0; fit < 6; fit++) {
            x.tells(-1, "turns", fit);
        }
        x.call("line", 0, 1);
        x.tells(7, "turns", 6);
        for (int fit : Run.beyond(0, 6)) {
            x.tells(-1, "turns", fit);
        }
    }

    private static void lowAtTheEdges(Run x) {
        x.call("point", 0, -12, -60, 4);
        x.call("point", 0, 12, 60, 4);
        x.call("line", 0, 0);
        x.fraction(240, 1, "low", 0, 3);
        x.row(1, 0, 1);
        x.call("point", 1, 11, 0, 1);
        x.call("point", 1, 12, 0, 1);
        x.call("even", 1);
        // 23, 144 and 121 are the differences of the squares.
        x.fraction(23, 288, "low", 1, 7);
    }

    private static void lowOfNoTurns(Run x) {
        x.tells(NO, "low", 0, 3, 0);
        x.row(0, 0, 0, 3, 1);
        x.call("line", 0, 0);
        x.fraction(3, 2, "low", 0, 3);
        int[] none = {
            0, 1, 2, 4, 7, 8, 9, 10, 12, 24, 3 << 11, 3 << 30, 1 << 31, 1 << 31 | 1, -1, -2, -3, Integer.MAX_VALUE
        };
        for (int bits : none) {
            x.tells(NO, "low", 0, bits, 0);
            x.tells(NO, "low", 0, bits, 1);
        }
        for (int fit : Run.beyond(0, 0)) {
            x.tells(NO, "low", fit, 3, 0);
        }
        for (int what : Run.beyond(0, 1)) {
            x.tells(NO, "low", 0, 3, what);
        }
    }

    /** LOW is 0 and the one comer is the last POINT of twelve, then the first one. */
    private static void swapInFullSet(Run x) {
        pairs(x, 0, 0, 0, 0, 0, 0, 0, 0, 0, 0, 0, 60).tells(1 << 1 | 1 << 11, "swap", 0, 3);
        pairs(x, 0, 0, 0, 0, 0, 0, 0, 0, 0, 0, 0, -60).tells(1 | 1 << 11, "swap", 0, 3);
        pairs(x, 60, 0, 0, 0, 0, 0, 0, 0, 0, 0, 0, 0).tells(1 | 1 << 11, "swap", 0, 3 << 10);
        pairs(x, -60, 0, 0, 0, 0, 0, 0, 0, 0, 0, 0, 0).tells(1 | 1 << 10, "swap", 0, 3 << 10);
    }

    private static void swapOfNoTurns(Run x) {
        noTurns(x, "swap");
        x.tells(3, "swap", 0, 3);
    }

    private static void swapsOfNoTurns(Run x) {
        noTurns(x, "swaps");
        x.tells(0, "swaps", 0, 3);
    }

    private static void noTurns(Run x, String name) {
        x.tells(-1, name, 0, 3);
        x.row(0, 0, 0, 3, 1);
        x.call("line", 0, 0);
        int[] none = {
            0, 1, 2, 4, 7, 8, 9, 10, 12, 24, 3 << 11, 3 << 30, 1 << 31, 1 << 31 | 1, -1, -2, -3, Integer.MAX_VALUE
        };
        for (int bits : none) {
            x.tells(-1, name, 0, bits);
        }
        for (int fit : Run.beyond(0, 0)) {
            x.tells(-1, name, fit, 3);
        }
        x.call("line", 0, 2);
        x.tells(-1, name, 1, 7);
        x.call("fit", 0, 0, 0, 0, 1);
        x.call("shorts", 0, 0, 0);
        x.call("pieces", 0, 0, 1, 1);
        for (int fit = 2; fit < 5; fit++) {
            x.tells(-1, name, fit, 3);
        }
    }

    private static void swapsInARow(Run x) {
        Run y = pairs(x, 0, 4, 10, -6, 2);
        int[] bits = {3, 5, 12, 24, 18, 10};
        int[] swapped = {5, 12, 12, 12, 10, 12};
        int[] rows = {2, 1, 0, 1, 2, 1};
        for (int i = 0; i < bits.length; i++) {
            y.tells(swapped[i], "swap", 0, bits[i]);
            y.tells(rows[i], "swaps", 0, bits[i]);
        }
        // Nothing to swap at all, and nothing that could come in.
        pairs(x, 7, 7, 7, 7).tells(0, "swaps", 0, 12);
        pairs(x, 7, 9).tells(0, "swaps", 0, 3);
        // As many in a row as one by one, from all TURNS of a full SET at its edges.
        x.row(0, 0, TWELVE);
        x.call("line", 0, 2);
        for (int start : new int[] {15, 15 << 8, 1 | 7 << 9, 7 | 1 << 11, 3 | 3 << 10}) {
            long now = start;
            long many = 0;
            for (long next = x.call("swap", 0, start); next != now && many < 20; next = x.call("swap", 0, (int) now)) {
                now = next;
                many++;
            }
            x.tells(many, "swaps", 0, start);
            x.fraction(x.call("level", 0, 0), x.call("level", 0, 1), "low", 0, (int) now);
        }
    }
}
