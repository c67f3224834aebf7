/** Boundary cases of ACTS and THE TRACE: promises 25 and 26, and what the terms say of them. */
final class ActBoundaries {
    private static final int[] EDGES = {
        Integer.MIN_VALUE, Integer.MIN_VALUE + 1, -(1 << 30) - 1, -1, 0, 1 << 30, Integer.MAX_VALUE - 1,
        Integer.MAX_VALUE
    };
    /** By KIND, then by ACT: THE TRACE. */
    private static final int[][][] TRACES = {
        {{10}, {11, 10}, {12}, {13, 11, 10, 12}},
        {{20, 10}, {11, 20, 10}, {21, 12}, {13, 11, 20, 10, 21, 12}},
        {{20, 10}, {30, 11, 20, 10}, {21, 12}, {31, 21, 12, 13, 30, 11, 20, 10, 21, 12}},
        {{10}, {11, 10}, {40, 12, 10}, {13, 11, 10, 40, 12, 10}},
        {{50, 20, 10}, {51, 11, 50, 20, 10, 50, 20, 10}, {21, 12}, {13, 51, 11, 50, 20, 10, 50, 20, 10, 21, 12}}
    };

    private ActBoundaries() {
    }

    static void all(Sentences s) {
        s.test(0, "with a number x (32 bits, wrapping)", ActBoundaries::wrapping);
        s.test(0, "0 fit, 1 miss, 2 bend, 3 tell", ActBoundaries::actsOutside);
        s.test(0, "n is its number, m how many POINTS it keeps", ActBoundaries::numbersAndPoints);
        s.test(0, "the body of the FIT's KIND, or, if that has none, of the next KIND above that has one",
            ActBoundaries::bodiesOfKinds);
        s.test(0, "the bodies that ran in the latest act()", ActBoundaries::latestAct);
        s.test(0, "the first 50 are kept", ActBoundaries::longestTrace);
        s.test(25, "what it answers (any number)", ActBoundaries::minusOneIsAnAnswer);
        s.test(25, "STATUS 1.", ActBoundaries::actOfNone);
        s.test(26, "THE TRACE's i-th body.", ActBoundaries::firstAndLastBody);
        s.test(26, "-1: none such.", ActBoundaries::traceOfNone);
    }

    /** FITS 0 .. 4 without POINTS and 5 .. 9 with 12, by KIND. */
    private static void tenFits(Run x) {
        x.oneOfEachKind(0);
        x.row(1, 0, 1, 2, 3, 4, 5, 6, 7, 8, 9, 10, 11, 12);
        x.oneOfEachKind(1);
    }

    private static int answerOfFit(int kind, int m, int x) {
        switch (kind) {
            case 1:
            case 2:
                return x + m + 1;
            case 4:
                return 2 * x + m + 1;
            default:
                return x + m;
        }
    }

    private static int answerOfMiss(int kind, int m, int x) {
        switch (kind) {
            case 2:
                return 2 * (x + 1);
            case 4:
                return answerOfFit(4, m, x);
            default:
                return 2 * answerOfFit(kind, m, x);
        }
    }

    private static int answerOfBend(int kind, int m, int n, int x) {
        switch (kind) {
            case 0:
                return x - n;
            case 3:
                return 2 * x - n + m;
            default:
                return 3 * (x - n);
        }
    }

    /** What the bodies come to, worked out by hand. */
    private static int answer(int act, int kind, int m, int n, int x) {
        int miss = answerOfMiss(kind, m, x);
        int bend = answerOfBend(kind, m, n, x);
        switch (act) {
            case 0:
                return answerOfFit(kind, m, x);
            case 1:
                return miss;
            case 2:
                return bend;
            default:
                return kind == 2 ? bend + (miss ^ bend) : miss ^ bend;
        }
    }

    private static void wrapping(Run x) {
        tenFits(x);
        for (int fit = 0; fit < 10; fit++) {
            for (int act = 0; act < 4; act++) {
                for (int number : EDGES) {
                    x.tells(answer(act, fit % 5, fit < 5 ? 0 : 12, fit, number), "act", fit, act, number);
                }
            }
        }
        x.tells(0, "status");
        // Some of them once more, as plain numbers.
        x.tells(Integer.MIN_VALUE + 11, "act", 5, 0, Integer.MAX_VALUE);
        x.tells(22, "act", 5, 1, Integer.MAX_VALUE);
        x.tells(Integer.MAX_VALUE - 4, "act", 5, 2, Integer.MIN_VALUE);
        x.tells(Integer.MIN_VALUE, "act", 1, 0, Integer.MAX_VALUE);
        x.tells(0, "act", 2, 1, Integer.MAX_VALUE);
        x.tells(1, "act", 4, 0, Integer.MIN_VALUE);
    }

    private static void actsOutside(Run x) {
        tenFits(x);
        for (int act : Run.beyond(0, 3)) {
            x.refused(1, "act", 0, act, 5);
            x.refused(1, "act", 9, act, 5);
        }
        x.tells(0, "count", 1);
    }

    private static void numbersAndPoints(Run x) {
        for (int fit = 0; fit < 10; fit++) {
            x.call("fit", 0, 0, 0, 0, 1);
            x.call("point", 0, fit, 0, 1);
        }
        for (int fit = 0; fit < 10; fit++) {
            x.done(100 + fit, "act", fit, 0, 100);
            x.done(100 - fit, "act", fit, 2, 100);
        }
        // A number that comes again is the new FIT's.
        x.call("drop");
        x.call("drop");
        x.call("line", 0, 0);
        x.done(100 + 10 + 1, "act", 8, 0, 100);
        x.done(3 * (100 - 8), "act", 8, 2, 100);
    }

    private static void bodiesOfKinds(Run x) {
        x.oneOfEachKind(0);
        for (int kind = 0; kind < 5; kind++) {
            for (int act = 0; act < 4; act++) {
                x.call("act", kind, act, 7);
                int[] trace = TRACES[kind][act];
                x.tells(trace.length, "count", 1);
                for (int i = 0; i < trace.length; i++) {
                    x.tells(trace[i], "trace", i);
                }
            }
        }
    }

    private static void latestAct(Run x) {
        x.oneOfEachKind(0);
        x.call("act", 4, 3, 0);
        x.call("act", 0, 2, 0);
        x.tells(1, "count", 1);
        x.tells(12, "trace", 0);
        x.tells(-1, "trace", 1);
        x.tells(-1, "trace", 10);
        // Neither refused ones nor the end of the FIT count.
        x.refused(1, "act", 5, 0, 0);
        x.refused(1, "act", 0, 4, 0);
        x.call("drop");
        x.tells(1, "count", 1);
        x.tells(12, "trace", 0);
    }

    /** No act has more than 11 bodies, so all are kept. */
    private static void longestTrace(Run x) {
        tenFits(x);
        for (int fit = 4; fit < 10; fit += 5) {
            x.call("act", fit, 3, Integer.MIN_VALUE);
            x.tells(11, "count", 1);
            for (int i = 0; i < 11; i++) {
                x.tells(TRACES[4][3][i], "trace", i);
            }
            x.tells(-1, "trace", 11);
        }
    }

    private static void minusOneIsAnAnswer(Run x) {
        tenFits(x);
        x.done(-1, "act", 0, 0, -1);
        x.done(-1, "act", 5, 0, -13);
        x.done(-1, "act", 1, 0, -2);
        x.done(-1, "act", 4, 1, -1);
        x.done(0, "act", 0, 3, 0);
        x.done(Integer.MIN_VALUE, "act", 0, 0, Integer.MIN_VALUE);
    }

    private static void actOfNone(Run x) {
        x.refused(1, "act", 0, 0, 0);
        x.call("line", 0, 0);
        x.done(1, "act", 0, 0, 0);
        for (int fit : Run.beyond(0, 0)) {
            x.refused(1, "act", fit, 0, 0);
        }
        x.refused(1, "act", 0, -1, 0);
        x.refused(1, "act", 0, 4, 0);
        x.call("drop");
        x.refused(1, "act", 0, 0, 0);
        x.tells(2, "count", 1);
    }

    private static void firstAndLastBody(Run x) {
        x.oneOfEachKind(0);
        x.call("act", 2, 3, 0);
        x.tells(31, "trace", 0);
        x.tells(12, "trace", 9);
        x.tells(-1, "trace", 10);
    }

    private static void traceOfNone(Run x) {
        x.tells(-1, "trace", 0);
        x.tells(-1, "trace", 49);
        x.oneOfEachKind(0);
        x.call("act", 0, 1, 0);
        for (int i : Run.beyond(0, 1)) {
            x.tells(-1, "trace", i);
        }
        for (int i : Run.beyond(0, 49)) {
            x.tells(-1, "trace", i);
        }
    }
}
