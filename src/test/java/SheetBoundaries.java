/** Boundary cases of SHEETS and of what the host does: promises 27 to 30, and what the terms say of them. */
final class SheetBoundaries {
    private SheetBoundaries() {
    }

    static void all(Sentences s) {
        s.test(0, "SHEETS 0 .. 3 are rows of numbers", SheetBoundaries::sheets);
        s.test(0, "or missing (as all are at first)", SheetBoundaries::missingAtFirst);
        s.test(0, "of sort 0 (bytes), 1 (ints), 2 (longs)", SheetBoundaries::sorts);
        s.test(27, "with n (0 .. 40) numbers", SheetBoundaries::sizes);
        s.test(27, "all 0", SheetBoundaries::allZero);
        s.test(27, "sort -1: it is missing from now on (n does not matter)", SheetBoundaries::missingFromNowOn);
        s.test(27, "Answers 1. STATUS 1.", SheetBoundaries::sheetOfWrongNumbers);
        s.test(28, "Number i of a SHEET becomes v (-100 .. 100).", SheetBoundaries::cellValues);
        s.test(28, "STATUS 1, 10", SheetBoundaries::cellOfMissingSheet);
        s.test(28, "STATUS 1, 10, 12.", SheetBoundaries::cellOutside);
        s.test(29, "from place i on: PLACE, VALUE, WEIGHT", SheetBoundaries::pointsAtTheEdges);
        s.test(29, "STATUS 1 (no such SET, SHEET, sort)", SheetBoundaries::pointsOfWrongNumbers);
        s.test(29, "STATUS 1 (no such SET, SHEET, sort), 2", SheetBoundaries::pointsForFullSet);
        s.test(29, "10", SheetBoundaries::pointsOfMissingSheet);
        s.test(29, "11", SheetBoundaries::pointsOfAnotherSort);
        s.test(29, "12", SheetBoundaries::pointsOutside);
        s.test(29, "3 (they tell no POINT", SheetBoundaries::pointsThatTellNone);
        s.test(29, "or one has this PLACE)", SheetBoundaries::pointsOfTakenPlace);
        s.test(29, "these in this order", SheetBoundaries::pointsRefusedTwice);
        s.test(30, "(STATUS 1: another; n or k outside -100 .. 100)", SheetBoundaries::forgeOfWrongNumbers);
        s.test(30, "KIND is n modulo 5 (also for numbers below 0)", SheetBoundaries::kindsModulo);
        s.test(30, "or one under that one (also by others between)", SheetBoundaries::kindsUnder);
        s.test(30, "10 (there is no such FIT), 11; answers its KIND", SheetBoundaries::kindOfNoFit);
        s.test(30, "a row of n numbers is made: 13; answers n", SheetBoundaries::rowOfSize);
        s.test(30, "SHEET k modulo 4 is taken for one of sort 1: 11", SheetBoundaries::numberOfAnotherSort);
        s.test(30, "its number n: 10, 12; answers it", SheetBoundaries::numberOfSheet);
        s.test(30, "n numbers of SHEET k modulo 4, taken for one of sort 0 (11)", SheetBoundaries::copyOfAnotherSort);
        s.test(30, "from its number 1 on, are copied to a row of 6 from place n on: 10, 12",
            SheetBoundaries::copyAtTheEdges);
        s.test(30, "(n below 0, or they do not stand there in both", SheetBoundaries::copyOutside);
        s.test(30, "also if it has no numbers at all)", SheetBoundaries::copyOfNoNumbers);
        s.test(30, "a row that takes LINES and what is under them: 14; answers its KIND", SheetBoundaries::rowOfLines);
        s.test(30, "(0: there is no such)", SheetBoundaries::rowOfNoFit);
        s.test(30, "1000 is divided by n: 15", SheetBoundaries::divided);
        s.test(30, "n modulo 2 is 0: none is there: 10; 1: one that is caught at once; answers 1",
            SheetBoundaries::thrown);
    }

    // ---- terms

    private static void sheets(Run x) {
        for (int sheet = 0; sheet < 4; sheet++) {
            x.done(1, "sheet", sheet, 1, 1);
            x.done(1, "cell", sheet, 0, 10 + sheet);
        }
        for (int sheet = 0; sheet < 4; sheet++) {
            x.done(10 + sheet, "forge", 2, 0, sheet);
        }
        for (int sheet : Run.beyond(0, 3)) {
            x.refused(1, "sheet", sheet, 1, 1);
            x.refused(1, "sheet", sheet, -1, 1);
            x.refused(1, "cell", sheet, 0, 0);
            x.refused(1, "points", 0, sheet, 1, 0);
        }
    }

    private static void missingAtFirst(Run x) {
        for (int sheet = 0; sheet < 4; sheet++) {
            x.refused(10, "cell", sheet, 0, 0);
            x.refused(10, "points", 0, sheet, 0, 0);
        }
        // One that is there leaves the others missing.
        x.call("sheet", 2, 0, 3);
        x.refused(10, "cell", 1, 0, 0);
        x.refused(10, "cell", 3, 0, 0);
        x.done(1, "cell", 2, 0, 0);
    }

    private static void sorts(Run x) {
        for (int sort = 0; sort < 3; sort++) {
            x.cells(sort, sort, sort, -60, 4);
        }
        for (int sheet = 0; sheet < 3; sheet++) {
            for (int sort = 0; sort < 3; sort++) {
                if (sheet != sort) {
                    x.refused(11, "points", 0, sheet, sort, 0);
                }
            }
            x.done(sheet + 1, "points", 0, sheet, sheet, 0);
        }
        for (int sort : Run.beyond(-1, 2)) {
            x.refused(1, "sheet", 0, sort, 1);
        }
        for (int sort : Run.beyond(0, 2)) {
            x.refused(1, "points", 1, 0, sort, 0);
        }
        x.tells(3, "count", 2);
        for (int i = 0; i < 3; i++) {
            x.tells(-60, "pointTold", 0, i, 1);
        }
    }

    // ---- promise 27

    private static void sizes(Run x) {
        for (int sort = 0; sort < 3; sort++) {
            x.done(1, "sheet", sort, sort, 40);
            x.done(1, "cell", sort, 0, 1);
            x.done(1, "cell", sort, 39, 1);
            x.refused(12, "cell", sort, 40, 1);
            x.done(1, "sheet", sort, sort, 0);
            x.refused(12, "cell", sort, 0, 1);
            for (int n : Run.beyond(0, 40)) {
                x.refused(1, "sheet", sort, sort, n);
            }
        }
    }

    private static void allZero(Run x) {
        x.call("sheet", 0, 1, 40);
        for (int i = 0; i < 40; i++) {
            x.done(0, "forge", 2, i, 0);
            x.call("cell", 0, i, 9);
        }
        // Made anew, it is all 0 again.
        x.done(1, "sheet", 0, 1, 40);
        for (int i = 0; i < 40; i++) {
            x.tells(0, "forge", 2, i, 0);
        }
        x.cells(1, 0, 5, 5, 5, 5);
        x.done(15, "forge", 3, 3, 1);
        x.call("sheet", 1, 0, 4);
        x.done(0, "forge", 3, 3, 1);
        // As longs they tell a PLACE and a VALUE of 0, but no WEIGHT.
        x.call("sheet", 2, 2, 3);
        x.refused(3, "points", 0, 2, 2, 0);
        x.call("cell", 2, 2, 1);
        x.done(1, "points", 0, 2, 2, 0);
        x.tells(0, "pointTold", 0, 0, 0);
        x.tells(0, "pointTold", 0, 0, 1);
    }

    private static void missingFromNowOn(Run x) {
        for (int n : Run.beyond(0, 40)) {
            x.call("sheet", 0, 0, 5);
            x.done(1, "sheet", 0, -1, n);
            x.refused(10, "cell", 0, 0, 1);
        }
        // What is missing already stays so.
        x.done(1, "sheet", 0, -1, 5);
        x.done(1, "sheet", 3, -1, 0);
        x.refused(10, "forge", 3, 0, 0);
        x.refused(10, "forge", 3, 0, 3);
        x.call("sheet", 0, 2, 1);
        x.done(1, "cell", 0, 0, 1);
    }

    private static void sheetOfWrongNumbers(Run x) {
        x.cells(0, 1, 7, 8);
        x.refused(1, "sheet", -1, 0, 1);
        x.refused(1, "sheet", 4, 0, 1);
        x.refused(1, "sheet", 4, -1, 1);
        x.refused(1, "sheet", 0, -2, 1);
        x.refused(1, "sheet", 0, 3, 1);
        x.refused(1, "sheet", 0, 0, -1);
        x.refused(1, "sheet", 0, 1, 41);
        x.refused(1, "sheet", 3, 2, 41);
        x.done(7, "forge", 2, 0, 0);
        x.done(8, "forge", 2, 1, 0);
        x.refused(10, "cell", 3, 0, 0);
    }

    // ---- promise 28

    private static void cellValues(Run x) {
        x.call("sheet", 0, 0, 4);
        x.call("sheet", 1, 1, 4);
        x.call("sheet", 2, 2, 4);
        for (int sheet = 0; sheet < 3; sheet++) {
            x.done(1, "cell", sheet, 1, -100);
            x.done(1, "cell", sheet, 3, 100);
            for (int v : Run.beyond(-100, 100)) {
                x.refused(1, "cell", sheet, 1, v);
            }
        }
        x.done(-100, "forge", 3, 1, 0);
        x.done(-100, "forge", 2, 1, 1);
        x.done(0, "forge", 2, 0, 1);
        x.done(100, "forge", 2, 3, 1);
        x.done(1, "cell", 0, 1, 100);
        x.done(1, "cell", 0, 2, 100);
        x.done(300, "forge", 3, 3, 0);
    }

    private static void cellOfMissingSheet(Run x) {
        x.refused(10, "cell", 0, 0, 100);
        x.refused(10, "cell", 3, -1, -100);
        x.refused(10, "cell", 0, 40, 0);
        x.refused(1, "cell", 0, 0, 101);
        x.refused(1, "cell", 4, 0, 0);
        x.call("sheet", 0, 0, 1);
        x.done(1, "cell", 0, 0, 100);
        x.call("sheet", 0, -1, 0);
        x.refused(10, "cell", 0, 0, 100);
    }

    private static void cellOutside(Run x) {
        for (int sheet = 0; sheet < 3; sheet++) {
            x.call("sheet", sheet, sheet, 3);
            for (int i : Run.beyond(0, 2)) {
                x.refused(12, "cell", sheet, i, 5);
            }
            x.refused(1, "cell", sheet, 3, 101);
            x.refused(1, "cell", sheet, -1, -101);
            x.done(1, "cell", sheet, 0, 5);
            x.done(1, "cell", sheet, 2, 5);
        }
    }

    // ---- promise 29

    private static void pointsAtTheEdges(Run x) {
        x.cells(0, 0, -12, -60, 1);
        x.done(1, "points", 0, 0, 0, 0);
        x.call("sheet", 1, 1, 40);
        x.call("cell", 1, 37, 12);
        x.call("cell", 1, 38, 60);
        x.call("cell", 1, 39, 4);
        x.done(2, "points", 0, 1, 1, 37);
        x.cells(3, 2, 9, -1, -1, 1, 9);
        x.done(3, "points", 0, 3, 2, 1);
        int[] told = {-12, -60, 1, -1, -1, 1, 12, 60, 4};
        for (int i = 0; i < told.length; i++) {
            x.tells(told[i], "pointTold", 0, i / 3, i % 3);
        }
        x.done(1, "points", 5, 3, 2, 1);
        x.row(4, -12, 0, 0, 0, 0, 0, 0, 0, 0, 0, 0, 0);
        x.done(12, "points", 4, 1, 1, 37);
    }

    private static void pointsOfWrongNumbers(Run x) {
        x.cells(0, 0, 0, 0, 1);
        for (int set : Run.beyond(0, 5)) {
            x.refused(1, "points", set, 0, 0, 0);
        }
        for (int sheet : Run.beyond(0, 3)) {
            x.refused(1, "points", 0, sheet, 0, 0);
        }
        for (int sort : Run.beyond(0, 2)) {
            x.refused(1, "points", 0, 0, sort, 0);
        }
        x.tells(0, "count", 2);
        x.done(1, "points", 0, 0, 0, 0);
    }

    private static void pointsForFullSet(Run x) {
        x.row(0, 0, 0, 0, 0, 0, 0, 0, 0, 0, 0, 0, 0, 0);
        x.cells(0, 0, 12, 0, 1);
        x.refused(2, "points", 0, 0, 0, 0);
        x.tells(12, "count", 2);
        x.call("take", 0, 0);
        x.done(12, "points", 0, 0, 0, 0);
        x.tells(12, "pointTold", 0, 11, 0);
    }

    private static void pointsOfMissingSheet(Run x) {
        for (int sheet = 0; sheet < 4; sheet++) {
            for (int sort = 0; sort < 3; sort++) {
                x.refused(10, "points", 0, sheet, sort, 0);
            }
        }
        x.cells(0, 0, 0, 0, 1);
        x.done(1, "points", 0, 0, 0, 0);
        x.call("sheet", 0, -1, 0);
        x.refused(10, "points", 1, 0, 0, 0);
    }

    private static void pointsOfAnotherSort(Run x) {
        for (int sort = 0; sort < 3; sort++) {
            x.cells(sort, sort, 0, 0, 1);
        }
        x.refused(11, "points", 0, 0, 1, 0);
        x.refused(11, "points", 0, 0, 2, 0);
        x.refused(11, "points", 0, 1, 0, 0);
        x.refused(11, "points", 0, 1, 2, 0);
        x.refused(11, "points", 0, 2, 0, 0);
        x.refused(11, "points", 0, 2, 1, 0);
        x.tells(0, "count", 2);
        // A SHEET without numbers has its sort, too.
        x.call("sheet", 3, 0, 0);
        x.refused(11, "points", 0, 3, 1, 0);
    }

    private static void pointsOutside(Run x) {
        x.cells(0, 1, 0, 0, 1, 1, 2);
        for (int i : Run.beyond(0, 2)) {
            x.refused(12, "points", 0, 0, 1, i);
        }
        x.refused(12, "points", 0, 0, 1, 4);
        x.refused(12, "points", 0, 0, 1, 5);
        x.refused(12, "points", 0, 0, 1, -2);
        x.refused(12, "points", 0, 0, 1, -3);
        x.done(1, "points", 0, 0, 1, 2);
        for (int n = 0; n < 3; n++) {
            x.call("sheet", 1, 0, n);
            x.refused(12, "points", 0, 1, 0, 0);
        }
        x.tells(1, "count", 2);
    }

    private static void pointsThatTellNone(Run x) {
        int[][] none = {
            {-13, 0, 1}, {13, 0, 1}, {-100, 0, 1}, {100, 0, 1}, {0, -61, 1}, {0, 61, 1}, {0, -100, 1}, {0, 100, 1},
            {0, 0, 0}, {0, 0, 5}, {0, 0, -1}, {0, 0, 100}
        };
        for (int i = 0; i < none.length; i++) {
            x.cells(i % 3, i % 3, none[i]);
            x.refused(3, "points", 0, i % 3, i % 3, 0);
        }
        x.tells(0, "count", 2);
    }

    private static void pointsOfTakenPlace(Run x) {
        x.row(0, -12, 5);
        x.cells(0, 2, -12, 6, 2);
        x.refused(3, "points", 0, 0, 2, 0);
        x.tells(5, "pointTold", 0, 0, 1);
        x.done(1, "points", 1, 0, 2, 0);
        x.refused(3, "points", 1, 0, 2, 0);
        x.call("take", 0, 0);
        x.done(1, "points", 0, 0, 2, 0);
        x.tells(6, "pointTold", 0, 0, 1);
    }

    private static void pointsRefusedTwice(Run x) {
        x.row(0, 0, 0, 0, 0, 0, 0, 0, 0, 0, 0, 0, 0, 0);
        x.row(1, 5, 0);
        x.cells(0, 0, 5, 61, 0, 5);
        // 1 comes ahead of all others.
        x.refused(1, "points", 0, 0, 3, 0);
        x.refused(1, "points", 0, 4, 0, 0);
        x.refused(1, "points", 6, 3, 0, 0);
        x.refused(1, "points", 6, 0, 1, 0);
        x.refused(1, "points", 1, 0, 3, 9);
        x.refused(1, "points", 1, 0, -1, 0);
        // Then 2.
        x.refused(2, "points", 0, 3, 0, 0);
        x.refused(2, "points", 0, 0, 1, 0);
        x.refused(2, "points", 0, 0, 0, 9);
        x.refused(2, "points", 0, 0, 0, 0);
        // Then 10, 11, 12, and 3 last.
        x.refused(10, "points", 1, 3, 0, 9);
        x.refused(10, "points", 1, 3, 0, -1);
        x.refused(11, "points", 1, 0, 1, 9);
        x.refused(11, "points", 1, 0, 2, -1);
        x.refused(11, "points", 1, 0, 1, 0);
        x.refused(12, "points", 1, 0, 0, 3);
        x.refused(12, "points", 1, 0, 0, 2);
        x.refused(3, "points", 1, 0, 0, 1);
        x.refused(3, "points", 1, 0, 0, 0);
    }

    // ---- promise 30

    private static void forgeOfWrongNumbers(Run x) {
        for (int what : Run.beyond(0, 6)) {
            x.refused(1, "forge", what, 1, 1);
        }
        for (int what = 0; what < 7; what++) {
            for (int n : new int[] {Integer.MIN_VALUE, -101, 101, Integer.MAX_VALUE}) {
                x.refused(1, "forge", what, n, 0);
                x.refused(1, "forge", what, 1, n);
            }
        }
        // The edges themselves are fine; k does not matter to 1, 5 and 6, nor n to 4.
        x.done(100, "forge", 1, 100, -100);
        x.done(100, "forge", 1, 100, 100);
        x.done(10, "forge", 5, 100, 100);
        x.done(-10, "forge", 5, -100, -100);
        x.done(1, "forge", 6, 99, 100);
        x.done(1, "forge", 6, -99, -100);
        x.done(0, "forge", 4, -100, 100);
        x.done(0, "forge", 4, 100, -100);
    }

    private static void kindsModulo(Run x) {
        x.oneOfEachKind(0);
        x.oneOfEachKind(0);
        // FIT 9 is of KIND 4.
        x.done(4, "forge", 0, 4, 9);
        x.done(4, "forge", 0, -1, 9);
        x.done(4, "forge", 0, 99, 9);
        x.done(4, "forge", 0, -96, 9);
        x.done(4, "forge", 0, 0, -1);
        x.done(4, "forge", 0, 100, 99);
        x.done(4, "forge", 0, -100, -91);
        x.refused(11, "forge", 0, -2, 9);
        x.refused(11, "forge", 0, 3, -1);
        // FIT 0 is of KIND 0, FIT 8 of KIND 3.
        x.done(0, "forge", 0, -5, -10);
        x.done(0, "forge", 0, 5, 100);
        x.done(0, "forge", 0, -100, -100);
        x.refused(11, "forge", 0, -4, -10);
        x.done(3, "forge", 0, -2, -2);
        x.done(3, "forge", 0, 98, 98);
        x.refused(11, "forge", 0, -1, -2);
    }

    private static void kindsUnder(Run x) {
        x.oneOfEachKind(0);
        int[][] allowed = {{0}, {0, 1}, {0, 1, 2}, {0, 3}, {0, 1, 4}};
        for (int kind = 0; kind < 5; kind++) {
            for (int taken = 0; taken < 5; taken++) {
                boolean is = false;
                for (int one : allowed[kind]) {
                    is |= one == taken;
                }
                if (is) {
                    x.done(kind, "forge", 0, taken, kind);
                } else {
                    x.refused(11, "forge", 0, taken, kind);
                }
            }
        }
    }

    private static void kindOfNoFit(Run x) {
        for (int kind = 0; kind < 5; kind++) {
            x.refused(10, "forge", 0, kind, 0);
            x.refused(10, "forge", 0, kind, -1);
        }
        x.call("fit", 0, 0, 0, 0, 1);
        x.done(0, "forge", 0, 0, 0);
        x.refused(11, "forge", 0, 1, 0);
        x.refused(10, "forge", 0, 0, 1);
        x.refused(10, "forge", 0, 1, 9);
        x.call("drop");
        x.refused(10, "forge", 0, 0, 0);
    }

    private static void rowOfSize(Run x) {
        x.done(0, "forge", 1, 0, 0);
        x.done(1, "forge", 1, 1, 0);
        x.done(100, "forge", 1, 100, 0);
        x.refused(13, "forge", 1, -1, 0);
        x.refused(13, "forge", 1, -100, 0);
    }

    private static void numberOfAnotherSort(Run x) {
        x.cells(0, 0, 5);
        x.cells(1, 1, 6);
        x.cells(2, 2, 7);
        x.refused(11, "forge", 2, 0, 0);
        x.refused(11, "forge", 2, 0, 2);
        // It is of another sort, whatever n is.
        x.refused(11, "forge", 2, 1, 0);
        x.refused(11, "forge", 2, -1, 2);
        x.call("sheet", 2, 2, 0);
        x.refused(11, "forge", 2, 0, 2);
        for (int k = -99; k <= 97; k += 28) {
            x.done(6, "forge", 2, 0, k);
        }
        x.refused(11, "forge", 2, 0, -4);
        x.refused(11, "forge", 2, 0, -2);
        x.refused(10, "forge", 2, 0, -1);
        x.refused(10, "forge", 2, 0, 99);
    }

    private static void numberOfSheet(Run x) {
        x.refused(10, "forge", 2, 0, 0);
        x.refused(10, "forge", 2, -1, 0);
        x.refused(10, "forge", 2, 100, 0);
        x.cells(0, 1, -1, 0, 100);
        x.done(-1, "forge", 2, 0, 0);
        x.done(100, "forge", 2, 2, 0);
        x.refused(12, "forge", 2, 3, 0);
        x.refused(12, "forge", 2, -1, 0);
        x.refused(12, "forge", 2, 100, 0);
        x.refused(12, "forge", 2, -100, 0);
        x.call("sheet", 0, 1, 0);
        x.refused(12, "forge", 2, 0, 0);
        x.call("sheet", 0, 1, 40);
        x.done(0, "forge", 2, 39, 0);
        x.refused(12, "forge", 2, 40, 0);
    }

    private static void copyOfAnotherSort(Run x) {
        x.cells(0, 0, 1, 2, 3, 4);
        x.cells(1, 1, 1, 2, 3, 4);
        x.cells(2, 2, 1, 2, 3, 4);
        x.refused(11, "forge", 3, 1, 1);
        x.refused(11, "forge", 3, 1, 2);
        x.refused(11, "forge", 3, -1, 1);
        x.refused(11, "forge", 3, 9, 2);
        x.call("sheet", 1, 1, 0);
        x.refused(11, "forge", 3, 0, 1);
        for (int k = -100; k <= 100; k += 20) {
            x.done(5, "forge", 3, 2, k);
        }
        x.refused(11, "forge", 3, 1, -3);
        x.refused(11, "forge", 3, 1, -2);
        x.refused(10, "forge", 3, 1, -1);
    }

    private static void copyAtTheEdges(Run x) {
        x.cells(0, 0, 100, 1, 2, 4, 8, 16, 32, 64);
        int[] sums = {0, 1, 3, 7};
        for (int n = 0; n < 4; n++) {
            x.done(sums[n], "forge", 3, n, 0);
        }
        // From place 4 on two stand in the row of 6, but four are copied.
        x.refused(12, "forge", 3, 4, 0);
        x.cells(1, 0, 9, -100, -100, -100);
        x.done(-300, "forge", 3, 3, 1);
        x.refused(10, "forge", 3, 0, 2);
        x.refused(10, "forge", 3, -1, 3);
        x.refused(10, "forge", 3, 100, 3);
    }

    private static void copyOutside(Run x) {
        x.call("sheet", 0, 0, 40);
        for (int n : new int[] {-100, -2, -1, 4, 5, 6, 7, 40, 100}) {
            x.refused(12, "forge", 3, n, 0);
        }
        // The SHEET has one number fewer than they need.
        for (int n = 1; n < 4; n++) {
            x.call("sheet", 1, 0, n);
            x.refused(12, "forge", 3, n, 1);
            x.done(0, "forge", 3, n - 1, 1);
            x.call("sheet", 1, 0, n + 1);
            x.done(0, "forge", 3, n, 1);
        }
    }

    private static void copyOfNoNumbers(Run x) {
        x.call("sheet", 0, 0, 0);
        x.refused(12, "forge", 3, 0, 0);
        x.refused(12, "forge", 3, 1, 0);
        x.refused(12, "forge", 3, -1, 0);
        x.call("sheet", 0, 0, 1);
        x.done(0, "forge", 3, 0, 0);
    }

    private static void rowOfLines(Run x) {
        x.oneOfEachKind(0);
        x.refused(14, "forge", 4, 0, 0);
        x.done(1, "forge", 4, 0, 1);
        x.done(2, "forge", 4, 0, 2);
        x.refused(14, "forge", 4, 0, 3);
        x.done(4, "forge", 4, 0, 4);
        x.refused(14, "forge", 4, 0, -10);
        x.done(1, "forge", 4, 0, -99);
        x.done(1, "forge", 4, 0, 91);
        x.refused(14, "forge", 4, 0, 100);
        x.refused(14, "forge", 4, 0, -100);
        x.oneOfEachKind(0);
        x.done(4, "forge", 4, 0, -1);
        x.refused(14, "forge", 4, 0, -2);
    }

    private static void rowOfNoFit(Run x) {
        for (int k = 0; k < 10; k++) {
            x.refused(10, "forge", 0, 0, k);
            x.done(0, "forge", 4, 0, k);
        }
        x.call("line", 0, 0);
        x.done(1, "forge", 4, 0, 0);
        x.done(0, "forge", 4, 0, 1);
        x.done(0, "forge", 4, 0, -1);
        x.call("drop");
        x.done(0, "forge", 4, 0, 0);
    }

    private static void divided(Run x) {
        x.refused(15, "forge", 5, 0, 0);
        x.refused(15, "forge", 5, 0, 100);
        x.done(1000, "forge", 5, 1, 0);
        x.done(-1000, "forge", 5, -1, 0);
        x.done(10, "forge", 5, 100, 0);
        x.done(-10, "forge", 5, -100, 0);
        // Towards 0, as the host does it.
        x.done(333, "forge", 5, 3, 0);
        x.done(-333, "forge", 5, -3, 0);
    }

    private static void thrown(Run x) {
        for (int n : new int[] {-100, -2, 0, 2, 100}) {
            x.refused(10, "forge", 6, n, 0);
        }
        for (int n : new int[] {-99, -1, 1, 99}) {
            x.done(1, "forge", 6, n, 0);
        }
    }
}
