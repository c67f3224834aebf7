import java.util.ArrayList;
import java.util.List;
import java.util.function.Consumer;

/** Boundary cases of STATUS: promise 31, and what the terms say of refused calls. */
final class StatusBoundaries {
    private StatusBoundaries() {
    }

    static void all(Sentences s) {
        s.test(0, "Where several hold, the lowest.", StatusBoundaries::lowestOfSeveral);
        s.test(0, "Such calls answer -1 and change nothing else.", StatusBoundaries::refusedCallsChangeNothing);
        s.test(0, "change nothing else", StatusBoundaries::refusedCallsWithoutRoomChangeNothing);
        s.test(0, "the latest call that is no question", StatusBoundaries::questionsChangeNothing);
        s.test(31, "0 done", StatusBoundaries::doneAfterRefused);
        s.test(31, "STATUS of the latest call that is no question", StatusBoundaries::questionsLeaveStatus);
        s.test(31, "status(): STATUS.", StatusBoundaries::statusOfStatus);
    }

    /** A state in which every refusal can be reached but that of a tenth FIT's successor. */
    private static void someOfAll(Run x) {
        x.row(0, 0, 5, 4, 3, 2, 1, 0, -1, -2, -3, -4, -5, 9);
        x.row(1, -1, 7, 8, 9);
        x.oneOfEachKind(0);
        x.cells(0, 0, 1, 2, 3, 4);
        x.cells(1, 1, -1, 60, 4);
        x.cells(2, 2, 3, -3, 2, 99);
        x.call("act", 4, 3, 11);
    }

    private static void tenFits(Run x) {
        x.row(0, 0, 5, 4, 3);
        x.row(1, -1, 7, 8, 9);
        x.oneOfEachKind(0);
        x.oneOfEachKind(0);
        x.call("act", 9, 3, 11);
    }

    private static void lowestOfSeveral(Run x) {
        tenFits(x);
        x.row(2, 0, 0, 0, 0, 0, 0, 0, 0, 0, 0, 0, 0, 0);
        x.refused(1, "point", 2, 0, 0, 5);
        x.refused(2, "point", 2, 0, 0, 4);
        x.refused(1, "fit", 0, 0, 0, 0, 0);
        x.refused(1, "line", 6, 0);
        x.refused(1, "even", -1);
        x.refused(2, "even", 1);
        x.refused(1, "shorts", 0, 2, 0);
        x.refused(1, "pieces", 0, 0, 0, 0);
        x.refused(1, "sheet", 4, 3, 41);
        x.refused(1, "cell", 0, -1, 101);
        x.refused(10, "cell", 0, -1, 100);
        x.refused(1, "act", 10, 4, 0);
        x.refused(1, "forge", 1, -101, 0);
        x.refused(1, "forge", 5, 0, 101);
        x.refused(10, "forge", 2, -1, 0);
        x.refused(10, "forge", 3, -1, 0);
        x.call("sheet", 0, 2, 0);
        x.refused(11, "forge", 2, -1, 0);
        x.refused(11, "forge", 3, -1, 0);
    }

    /** All answers to questions about what stands; THE TRACE and STATUS too. */
    private static List<Long> allTold(Run x) {
        List<Long> told = new ArrayList<>();
        for (int what = 0; what < 8; what++) {
            told.add(x.call("count", what));
        }
        for (int set = 0; set < 2; set++) {
            for (int i = 0; i < 36; i++) {
                told.add(x.call("pointTold", set, i / 3, i % 3));
            }
        }
        for (int fit = 0; fit < 10; fit++) {
            for (int what = 0; what < 5; what++) {
                told.add(x.call("told", fit, what));
            }
            for (int i = 0; i < 6; i++) {
                told.add(x.call("number", fit, i / 2, 0, i % 2));
            }
            told.add(x.call("level", fit, 0));
            told.add(x.call("turns", fit));
            told.add(x.call("miss", fit, 2, 0));
            told.add(x.call("value", fit, -5, 0));
        }
        for (int i = 0; i < 12; i++) {
            told.add(x.call("trace", i));
        }
        return told;
    }

    /** What SHEETS hold can only be seen by calls that change something. */
    private static List<Long> sheetsTold(Run x) {
        List<Long> told = new ArrayList<>();
        for (int sheet = 0; sheet < 4; sheet++) {
            for (int n = 0; n < 4; n++) {
                told.add(x.call("forge", 2, n, sheet));
                told.add(x.call("forge", 3, n, sheet));
                told.add(x.call("status"));
            }
            told.add(x.call("points", 5, sheet, 2, 0));
            told.add(x.call("pointTold", 5, 0, 1));
        }
        return told;
    }

    /** One run with the call and one without it tell the same. */
    private static void changesNothing(Run x, Consumer<Run> start, int status, String name, int... numbers) {
        Run with = x.another();
        Run without = x.another();
        start.accept(with);
        start.accept(without);
        with.refused(status, name, numbers);
        x.holds(Face.text(name, numbers) + " changes nothing", allTold(with).equals(allTold(without)));
        x.holds(Face.text(name, numbers) + " changes no SHEET", sheetsTold(with).equals(sheetsTold(without)));
    }

    private static void refusedCallsChangeNothing(Run x) {
        Consumer<Run> start = StatusBoundaries::someOfAll;
        changesNothing(x, start, 1, "point", 1, 13, 0, 1);
        changesNothing(x, start, 1, "point", 1, 5, 0, 5);
        changesNothing(x, start, 2, "point", 0, -3, 0, 1);
        changesNothing(x, start, 3, "point", 1, 0, -8, 3);
        changesNothing(x, start, 1, "take", 1, 3);
        changesNothing(x, start, 1, "take", 6, 0);
        changesNothing(x, start, 1, "fit", 0, 0, 0, 0, 61);
        changesNothing(x, start, 1, "line", 0, 3);
        changesNothing(x, start, 1, "even", 6);
        changesNothing(x, start, 3, "even", 1);
        changesNothing(x, start, 1, "shorts", 0, 0, 3);
        changesNothing(x, start, 1, "pieces", 0, 0, 0, 0);
        changesNothing(x, start, 1, "act", 5, 0, 0);
        changesNothing(x, start, 1, "act", 0, 4, 0);
        changesNothing(x, start, 1, "sheet", 0, 0, 41);
        changesNothing(x, start, 1, "sheet", 1, 3, 1);
        changesNothing(x, start, 1, "sheet", 2, -2, 1);
        changesNothing(x, start, 1, "cell", 0, 1, 101);
        changesNothing(x, start, 10, "cell", 3, 0, 1);
        changesNothing(x, start, 12, "cell", 2, 4, 1);
        changesNothing(x, start, 1, "points", 0, 0, 3, 0);
        changesNothing(x, start, 2, "points", 0, 2, 2, 0);
        changesNothing(x, start, 10, "points", 1, 3, 0, 0);
        changesNothing(x, start, 11, "points", 1, 0, 1, 0);
        changesNothing(x, start, 12, "points", 1, 2, 2, 2);
        changesNothing(x, start, 3, "points", 1, 1, 1, 0);
        changesNothing(x, start, 3, "points", 1, 2, 2, 1);
        changesNothing(x, start, 1, "forge", 7, 0, 0);
        changesNothing(x, start, 11, "forge", 0, 4, 0);
        changesNothing(x, start, 13, "forge", 1, -1, 0);
        changesNothing(x, start, 12, "forge", 3, 4, 0);
        changesNothing(x, start, 14, "forge", 4, 0, 0);
        changesNothing(x, start, 15, "forge", 5, 0, 0);
        changesNothing(x, start, 10, "forge", 6, 0, 0);
        changesNothing(x, y -> y.row(0, 0, 1, 2), 3, "drop");
    }

    private static void refusedCallsWithoutRoomChangeNothing(Run x) {
        Consumer<Run> start = StatusBoundaries::tenFits;
        changesNothing(x, start, 2, "fit", 1, 9, 9, 9, 1);
        changesNothing(x, start, 2, "line", 1, 1);
        changesNothing(x, start, 2, "even", 0);
        changesNothing(x, start, 2, "even", 1);
        changesNothing(x, start, 2, "shorts", 1, 1, 1);
        changesNothing(x, start, 2, "pieces", 1, 1, 1, 1);
    }

    /** Questions, with answers and without. */
    private static void askAll(Run x) {
        for (int n : new int[] {-1, 0, 1, 2, 10}) {
            x.call("pointTold", n, n, 0);
            x.call("count", n);
            x.call("told", n, 3);
            x.call("number", n, n, 0, 0);
            x.call("value", n, n, 1);
            x.call("miss", n, n, 0);
            x.call("level", n, 1);
            x.call("far", n, n);
            x.call("begins", 4, n);
            x.call("turns", n);
            x.call("low", n, 3, 0);
            x.call("swap", n, 3);
            x.call("swaps", n, 3);
            x.call("swaps", n, 7);
            x.call("against", n, 0);
            x.call("same", n, 0);
            x.call("trace", n);
        }
    }

    private static void questionsChangeNothing(Run x) {
        Run with = x.another();
        Run without = x.another();
        someOfAll(with);
        someOfAll(without);
        askAll(with);
        x.holds("questions change nothing", allTold(with).equals(allTold(without)));
        with.tells(0, "status");
        x.holds("questions change no SHEET", sheetsTold(with).equals(sheetsTold(without)));
    }

    // ---- promise 31

    private static void doneAfterRefused(Run x) {
        String[] names = {
            "point", "take", "fit", "line", "even", "shorts", "pieces", "act", "drop", "sheet", "cell", "points", "forge"
        };
        int[][] fine = {
            {0, 0, 0, 1}, {0, 0}, {0, 0, 0, 0, 1}, {0, 0}, {0}, {0, 0, 0}, {0, 0, 0, 1}, {0, 0, 5}, {}, {0, 0, 3},
            {0, 2, 1}, {0, 0, 0, 0}, {5, 1, 0}
        };
        for (int i = 0; i < names.length; i++) {
            x.refused(15, "forge", 5, 0, 0);
            x.holds(names[i] + " is done", x.call(names[i], fine[i]) != -1);
            x.tells(0, "status");
        }
        x.oneOfEachKind(5);
        x.cells(1, 1, 7);
        // What the host does, and FIT 9, which is none, in a row.
        int[][] fineForges = {{0, 0, 1}, {1, 3, 0}, {2, 0, 1}, {3, 1, 0}, {4, 0, 1}, {4, 0, 9}, {5, 1, 0}, {6, 1, 0}};
        for (int[] numbers : fineForges) {
            x.refused(15, "forge", 5, 0, 0);
            x.holds(Face.text("forge", numbers) + " is done", x.call("forge", numbers) != -1);
            x.tells(0, "status");
        }
        x.refused(15, "forge", 5, 0, 0);
        x.done(1, "sheet", 0, -1, 0);
    }

    private static void questionsLeaveStatus(Run x) {
        someOfAll(x);
        int[][] refusals = {{5, 0, 15}, {1, -1, 13}, {6, 0, 10}, {7, 0, 1}};
        for (int[] r : refusals) {
            x.refused(r[2], "forge", r[0], r[1], 0);
            askAll(x);
            x.tells(r[2], "status");
        }
    }

    private static void statusOfStatus(Run x) {
        x.tells(0, "status");
        x.call("drop");
        x.tells(3, "status");
        x.tells(3, "status");
        x.call("fit", 0, 0, 0, 0, 1);
        x.call("sheet", 0, 0, 1);
        x.call("sheet", 1, 1, 0);
        x.tells(0, "status");
        // The host's refusals: what, n, k and the STATUS.
        int[][] refusals = {{0, 0, 1, 10}, {2, 0, 0, 11}, {2, 0, 1, 12}, {1, -1, 0, 13}, {4, 0, 0, 14}, {5, 0, 0, 15}};
        for (int[] r : refusals) {
            x.call("forge", r[0], r[1], r[2]);
            x.tells(r[3], "status");
        }
        x.call("point", 6, 0, 0, 1);
        x.tells(1, "status");
        x.row(0, 0, 0, 0, 0, 0, 0, 0, 0, 0, 0, 0, 0, 0);
        x.tells(0, "status");
        x.call("point", 0, 12, 0, 1);
        x.tells(2, "status");
        x.call("act", 0, 0, 0);
        x.tells(0, "status");
    }
}
