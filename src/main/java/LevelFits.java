/**
 * Levelled fits over weighted points, in exact fractions.
 *
 * What each call promises stands in DOC.md; the words in capitals here are that document's terms.
 */
public final class LevelFits {
    public static final int NONE = -1;
    public static final long NO = -1000000000000L;

    private static final int MOST_SETS = 6;
    private static final int MOST_POINTS = 12;
    private static final int MOST_FITS = 10;
    private static final int MOST_SHEETS = 4;
    private static final int MOST_CELLS = 40;
    private static final int MOST_BODIES = 50;

    private static final int KIND_FIT = 0;
    private static final int KIND_LINE = 1;
    private static final int KIND_EVEN = 2;
    private static final int KIND_SHORT = 3;
    private static final int KIND_PIECES = 4;
    private static final int KINDS = 5;
    /** By KIND: the KIND above it. */
    private static final int[] KIND_ABOVE = {-1, 0, 1, 0, 1};

    private static final int ACT_FIT = 0;
    private static final int ACT_MISS = 1;
    private static final int ACT_BEND = 2;
    private static final int ACT_TELL = 3;
    private static final int ACTS = 4;
    /** By KIND, four for each, then by ACT: the number of its body, 0 if it has none. */
    private static final int[] BODIES = {
        10, 11, 12, 13,
        20, 0, 21, 0,
        0, 30, 0, 31,
        0, 0, 40, 0,
        50, 51, 0, 0
    };

    private static final int DONE = 0;
    private static final int WRONG_NUMBER = 1;
    private static final int NO_ROOM = 2;
    private static final int NOT_SO = 3;
    private static final int NOTHING_THERE = 10;
    private static final int OTHER_SORT = 11;
    private static final int PLACE_OUTSIDE = 12;
    private static final int SIZE_BELOW_ZERO = 13;
    private static final int DOES_NOT_FIT = 14;
    private static final int DIVIDED_BY_ZERO = 15;

    private final Points[] sets = new Points[MOST_SETS];
    private final Fit[] fits = new Fit[MOST_FITS];
    private final Sheet[] sheets = new Sheet[MOST_SHEETS];
    private final Leveller leveller = new Leveller();
    private final ShortSearch shortSearch = new ShortSearch();
    private final Acts acts = new Acts();
    private int fitCount = 0;
    private int latestStatus = DONE;

    public LevelFits() {
        for (int s = 0; s < MOST_SETS; s++) {
            sets[s] = new Points();
        }
    }

    // ---- SETS and their POINTS

    public int point(int set, int place, int value, int weight) {
        Points points = setAt(set);
        if (points == null || !Points.allows(place, value, weight)) {
            return refuse(WRONG_NUMBER);
        }
        if (points.isFull()) {
            return refuse(NO_ROOM);
        }
        if (points.holds(place)) {
            return refuse(NOT_SO);
        }
        return done(points.insert(place, value, weight));
    }

    public int take(int set, int i) {
        Points points = setAt(set);
        if (points == null || !points.has(i)) {
            return refuse(WRONG_NUMBER);
        }
        return done(points.remove(i));
    }

    public long pointTold(int set, int i, int what) {
        Points points = setAt(set);
        if (points == null || !points.has(i)) {
            return NO;
        }
        switch (what) {
            case 0:
                return points.places[i];
            case 1:
                return points.values[i];
            case 2:
                return points.weights[i];
            default:
                return NO;
        }
    }

    // ---- making and dropping FITS

    public int fit(int set, int c0, int c1, int c2, int d) {
        Points points = setAt(set);
        boolean told = isWithin(c0, -1000, 1000) && isWithin(c1, -1000, 1000)
            && isWithin(c2, -1000, 1000) && isWithin(d, 1, 60);
        if (points == null || !told) {
            return refuse(WRONG_NUMBER);
        }
        if (fitCount >= MOST_FITS) {
            return refuse(NO_ROOM);
        }
        Fit made = new Fit(fitCount, KIND_FIT, 2, points.copy());
        made.firstPart().become(c0, c1, c2, d);
        return keepFit(made);
    }

    public int line(int set, int degree) {
        Points points = setAt(set);
        if (points == null || !isWithin(degree, 0, 2)) {
            return refuse(WRONG_NUMBER);
        }
        if (fitCount >= MOST_FITS) {
            return refuse(NO_ROOM);
        }
        return keepFit(levelledFit(KIND_LINE, degree, points));
    }

    public int even(int set) {
        Points points = setAt(set);
        if (points == null) {
            return refuse(WRONG_NUMBER);
        }
        if (fitCount >= MOST_FITS) {
            return refuse(NO_ROOM);
        }
        if (points.size > 0 && points.places[0] < 0) {
            return refuse(NOT_SO);
        }
        return keepFit(levelledFit(KIND_EVEN, 2, points));
    }

    public int shorts(int set, int degree, int bits) {
        Points points = setAt(set);
        if (points == null || !isWithin(degree, 0, 1) || !isWithin(bits, 0, 2)) {
            return refuse(WRONG_NUMBER);
        }
        if (fitCount >= MOST_FITS) {
            return refuse(NO_ROOM);
        }
        Fit made = new Fit(fitCount, KIND_SHORT, degree, points.copy());
        shortSearch.search(made.points, degree, bits);
        made.firstPart().become(shortSearch.bestC0, shortSearch.bestC1, 0, 1L << bits);
        return keepFit(made);
    }

    public int pieces(int set, int degree, int p, int q) {
        Points points = setAt(set);
        boolean told = isWithin(degree, 0, 2) && isWithin(p, 0, 10000) && isWithin(q, 1, 1000);
        if (points == null || !told) {
            return refuse(WRONG_NUMBER);
        }
        if (fitCount >= MOST_FITS) {
            return refuse(NO_ROOM);
        }
        return keepFit(partedFit(degree, p, q, points));
    }

    public int drop() {
        if (fitCount <= 0) {
            return refuse(NOT_SO);
        }
        fitCount--;
        fits[fitCount] = null;
        return done(fitCount);
    }

    /** While there is room for it. */
    private int keepFit(Fit made) {
        if (fitCount >= MOST_FITS) {
            return refuse(NO_ROOM);
        }
        fits[fitCount] = made;
        fitCount++;
        return done(made.number);
    }

    private Fit levelledFit(int kind, int degree, Points points) {
        Fit made = new Fit(fitCount, kind, degree, points.copy());
        leveller.levelRow(made, 0, made.points.size);
        leveller.hand(made.firstPart());
        return made;
    }

    /** Rows as long as can be, the first one first, are the fewest: no part of a row has a greater LEVEL than it. */
    private Fit partedFit(int degree, int p, int q, Points points) {
        Fit made = new Fit(fitCount, KIND_PIECES, degree, points.copy());
        int from = 0;
        for (int row = 0; row < MOST_POINTS && from < made.points.size; row++) {
            int to = from + 1;
            leveller.levelRow(made, from, to);
            Polynomial part = made.addPart(from);
            leveller.hand(part);
            while (to < made.points.size) {
                leveller.levelRow(made, from, to + 1);
                if (!leveller.levelIsAtMost(p, q)) {
                    break;
                }
                leveller.hand(part);
                to++;
            }
            from = to;
        }
        return made;
    }

    // ---- questions about FITS

    public int count(int what) {
        if (what == 0) {
            return fitCount;
        }
        if (what == 1) {
            return acts.kept;
        }
        Points points = what < 2 ? null : setAt(what - 2);
        return points == null ? NONE : points.size;
    }

    public int told(int fit, int what) {
        Fit f = fitAt(fit);
        if (f == null) {
            return NONE;
        }
        switch (what) {
            case 0:
                return f.kind;
            case 1:
                return f.points.size;
            case 2:
                return f.degree;
            case 3:
                return f.farCount();
            case 4:
                return f.partCount;
            default:
                return NONE;
        }
    }

    public long number(int fit, int piece, int power, int what) {
        Fit f = fitAt(fit);
        if (f == null || !isWithin(power, 0, 2)) {
            return NO;
        }
        int part = f.kind == KIND_PIECES ? piece : 0;
        if (!f.hasPart(part)) {
            return NO;
        }
        Polynomial polynomial = f.parts[part];
        return lowestTerms(polynomial.coefficient(power), polynomial.below, what);
    }

    public long value(int fit, int x, int what) {
        Fit f = fitAt(fit);
        if (f == null || !isWithin(x, -100, 100)) {
            return NO;
        }
        Polynomial polynomial = f.partFor(x);
        return lowestTerms(polynomial.aboveAt(x), polynomial.below, what);
    }

    public long miss(int fit, int i, int what) {
        Fit f = fitAt(fit);
        if (f == null || !f.points.has(i)) {
            return NO;
        }
        return lowestTerms(f.missAbove(i), f.missBelow(i), what);
    }

    public long level(int fit, int what) {
        Fit f = fitAt(fit);
        if (f == null) {
            return NO;
        }
        int farthest = f.farthest();
        return lowestTerms(f.missSize(farthest), f.missBelow(farthest), what);
    }

    public int far(int fit, int k) {
        Fit f = fitAt(fit);
        return f == null ? NONE : f.farPoint(k);
    }

    public int begins(int fit, int piece) {
        Fit f = fitAt(fit);
        if (f == null || f.kind != KIND_PIECES || !f.hasPart(piece)) {
            return NONE;
        }
        return f.partBegins[piece];
    }

    public int turns(int fit) {
        Fit f = fitAt(fit);
        return f == null || !f.hasTurns() ? NONE : f.theTurns();
    }

    public long low(int fit, int bits, int what) {
        Fit f = fitAt(fit);
        if (f == null || !f.areTurns(bits)) {
            return NO;
        }
        leveller.takeTurns(f, bits);
        return lowestTerms(leveller.lowAbove(), leveller.polynomial.below, what);
    }

    public int swap(int fit, int bits) {
        Fit f = fitAt(fit);
        if (f == null || !f.areTurns(bits)) {
            return NONE;
        }
        leveller.takeTurns(f, bits);
        leveller.exchange();
        return leveller.turnBits();
    }

    public int swaps(int fit, int bits) {
        Fit f = fitAt(fit);
        if (f == null || !f.areTurns(bits)) {
            return NONE;
        }
        leveller.takeTurns(f, bits);
        return leveller.settle();
    }

    public int against(int a, int b) {
        Fit first = fitAt(a);
        Fit second = fitAt(b);
        if (first == null || second == null) {
            return -2;
        }
        int i = first.farthest();
        int j = second.farthest();
        return Long.compare(first.missSize(i) * second.missBelow(j), second.missSize(j) * first.missBelow(i));
    }

    public int same(int a, int b) {
        Fit first = fitAt(a);
        Fit second = fitAt(b);
        if (first == null || second == null || first.kind == KIND_PIECES || second.kind == KIND_PIECES) {
            return NONE;
        }
        return first.firstPart().isLike(second.firstPart()) ? 1 : 0;
    }

    // ---- ACTS

    public int act(int fit, int act, int x) {
        Fit f = fitAt(fit);
        if (f == null || !isWithin(act, 0, ACTS - 1)) {
            return refuse(WRONG_NUMBER);
        }
        return done(acts.start(f, act, x));
    }

    public int trace(int i) {
        return i >= 0 && i < acts.kept && i < MOST_BODIES ? acts.bodies[i] : NONE;
    }

    // ---- SHEETS

    public int sheet(int sheet, int sort, int n) {
        boolean sizeMatters = sort != -1;
        if (!isSheet(sheet) || !isWithin(sort, -1, 2) || sizeMatters && !isWithin(n, 0, MOST_CELLS)) {
            return refuse(WRONG_NUMBER);
        }
        sheets[sheet] = sizeMatters ? new Sheet(sort, n) : null;
        return done(1);
    }

    public int cell(int sheet, int i, int v) {
        if (!isSheet(sheet) || !isWithin(v, -100, 100)) {
            return refuse(WRONG_NUMBER);
        }
        Sheet s = sheets[sheet];
        if (s == null) {
            return refuse(NOTHING_THERE);
        }
        if (!s.has(i)) {
            return refuse(PLACE_OUTSIDE);
        }
        s.cells[i] = v;
        return done(1);
    }

    public int points(int set, int sheet, int sort, int i) {
        Points points = setAt(set);
        if (points == null || !isSheet(sheet) || !isWithin(sort, 0, 2)) {
            return refuse(WRONG_NUMBER);
        }
        if (points.isFull()) {
            return refuse(NO_ROOM);
        }
        Sheet s = sheets[sheet];
        int sheetStatus = statusOf(s, sort);
        if (s == null || sheetStatus != DONE) {
            return refuse(sheetStatus);
        }
        if (!s.has(i) || !s.has(i + 2)) {
            return refuse(PLACE_OUTSIDE);
        }
        int place = s.cells[i];
        int value = s.cells[i + 1];
        int weight = s.cells[i + 2];
        if (!Points.allows(place, value, weight) || points.holds(place)) {
            return refuse(NOT_SO);
        }
        return done(points.insert(place, value, weight));
    }

    private static boolean isSheet(int sheet) {
        return sheet >= 0 && sheet < MOST_SHEETS;
    }

    /** What the host says of a SHEET that is taken for one of a sort. */
    private static int statusOf(Sheet sheet, int sort) {
        if (sheet == null) {
            return NOTHING_THERE;
        }
        return sheet.sort == sort ? DONE : OTHER_SORT;
    }

    // ---- what the host does

    public int forge(int what, int n, int k) {
        if (!isWithin(n, -100, 100) || !isWithin(k, -100, 100)) {
            return refuse(WRONG_NUMBER);
        }
        switch (what) {
            case 0:
                return forgeKind(fits[Math.floorMod(k, MOST_FITS)], Math.floorMod(n, KINDS));
            case 1:
                return n < 0 ? refuse(SIZE_BELOW_ZERO) : done(n);
            case 2:
                return forgeNumber(sheets[Math.floorMod(k, MOST_SHEETS)], n);
            case 3:
                return forgeCopy(sheets[Math.floorMod(k, MOST_SHEETS)], n);
            case 4:
                return forgeRowOfLines(fits[Math.floorMod(k, MOST_FITS)]);
            case 5:
                return n == 0 ? refuse(DIVIDED_BY_ZERO) : done(1000 / n);
            case 6:
                return Math.floorMod(n, 2) == 0 ? refuse(NOTHING_THERE) : done(1);
            default:
                return refuse(WRONG_NUMBER);
        }
    }

    private int forgeKind(Fit f, int kind) {
        if (f == null) {
            return refuse(NOTHING_THERE);
        }
        return isKindOrUnder(f.kind, kind) ? done(f.kind) : refuse(OTHER_SORT);
    }

    private int forgeNumber(Sheet s, int i) {
        int sheetStatus = statusOf(s, 1);
        if (s == null || sheetStatus != DONE) {
            return refuse(sheetStatus);
        }
        return s.has(i) ? done(s.cells[i]) : refuse(PLACE_OUTSIDE);
    }

    private int forgeCopy(Sheet s, int n) {
        int sheetStatus = statusOf(s, 0);
        if (s == null || sheetStatus != DONE) {
            return refuse(sheetStatus);
        }
        if (n < 0 || 1 + n > s.cells.length || n + n > 6) {
            return refuse(PLACE_OUTSIDE);
        }
        int sum = 0;
        for (int i = 1; i <= n; i++) {
            sum += s.cells[i];
        }
        return done(sum);
    }

    private int forgeRowOfLines(Fit f) {
        if (f == null) {
            return done(0);
        }
        return isKindOrUnder(f.kind, KIND_LINE) ? done(f.kind) : refuse(DOES_NOT_FIT);
    }

    private static boolean isKindOrUnder(int kind, int wanted) {
        int at = kind;
        for (int step = 0; step < KINDS && at >= 0 && at < KINDS; step++) {
            if (at == wanted) {
                return true;
            }
            at = KIND_ABOVE[at];
        }
        return false;
    }

    // ---- STATUS

    public int status() {
        return latestStatus;
    }

    private int refuse(int why) {
        latestStatus = why;
        return NONE;
    }

    private int done(int answer) {
        latestStatus = DONE;
        return answer;
    }

    // ---- small helps

    private Points setAt(int set) {
        return set >= 0 && set < MOST_SETS ? sets[set] : null;
    }

    private Fit fitAt(int fit) {
        return fit >= 0 && fit < MOST_FITS ? fits[fit] : null;
    }

    private static boolean isWithin(int n, int least, int greatest) {
        return n >= least && n <= greatest;
    }

    private static long lowestTerms(long above, long below, int what) {
        if (what != 0 && what != 1) {
            return NO;
        }
        long told = what == 0 ? above : below;
        long common = commonDivisor(above, below);
        return common > 1 ? told / common : told;
    }

    /** The greatest common divisor of two numbers, 0 if both are 0. */
    private static long commonDivisor(long a, long b) {
        // Without a call: the longest chain of calls ends here, and it is as long as one may be.
        long greater = a < 0 ? -a : a;
        long less = b < 0 ? -b : b;
        // The rest halves at least every second step, so 64 bits need fewer than 200 steps.
        for (int step = 0; step < 200 && less != 0; step++) {
            long rest = greater % less;
            greater = less;
            less = rest;
        }
        return greater;
    }

    /** POINTS in the order of their PLACES. */
    private static final class Points {
        private final int[] places;
        private final int[] values;
        private final int[] weights;
        private int size;

        Points() {
            places = new int[MOST_POINTS];
            values = new int[MOST_POINTS];
            weights = new int[MOST_POINTS];
            size = 0;
        }

        private Points(Points from) {
            places = from.places.clone();
            values = from.values.clone();
            weights = from.weights.clone();
            size = from.size;
        }

        static boolean allows(int place, int value, int weight) {
            return isWithin(place, -12, 12) && isWithin(value, -60, 60) && isWithin(weight, 1, 4);
        }

        Points copy() {
            return new Points(this);
        }

        boolean isFull() {
            return size >= MOST_POINTS;
        }

        boolean has(int i) {
            return i >= 0 && i < size;
        }

        boolean holds(int place) {
            for (int i = 0; i < size; i++) {
                if (places[i] == place) {
                    return true;
                }
            }
            return false;
        }

        /** For a place that it does not hold, while it is not full: how many there are then. */
        int insert(int place, int value, int weight) {
            if (isFull()) {
                return size;
            }
            int at = size;
            for (; at > 0 && places[at - 1] > place; at--) {
                move(at - 1, at);
            }
            places[at] = place;
            values[at] = value;
            weights[at] = weight;
            size++;
            return size;
        }

        /** For a POINT that it has: how many there are then. */
        int remove(int i) {
            if (!has(i)) {
                return size;
            }
            for (int at = i + 1; at < size; at++) {
                move(at, at - 1);
            }
            size--;
            return size;
        }

        private void move(int from, int to) {
            places[to] = places[from];
            values[to] = values[from];
            weights[to] = weights[from];
        }
    }

    /** (c0 + c1 x + c2 x^2) / below: below is above 0, and no number above 1 divides all four. */
    private static final class Polynomial {
        private long c0 = 0;
        private long c1 = 0;
        private long c2 = 0;
        private long below = 1;

        void become(long newC0, long newC1, long newC2, long newBelow) {
            c0 = newC0;
            c1 = newC1;
            c2 = newC2;
            below = newBelow;
            long common = commonDivisor(commonDivisor(c0, c1), commonDivisor(c2, below));
            if (common > 1) {
                c0 /= common;
                c1 /= common;
                c2 /= common;
                below /= common;
            }
        }

        long coefficient(int power) {
            if (power == 0) {
                return c0;
            }
            return power == 1 ? c1 : c2;
        }

        long aboveAt(long x) {
            return c0 + (c1 + c2 * x) * x;
        }

        boolean isLike(Polynomial other) {
            return c0 == other.c0 && c1 == other.c1 && c2 == other.c2 && below == other.below;
        }
    }

    /** A FIT with the POINTS that it keeps: one polynomial, or, if its KIND is PIECES, one for each PIECE. */
    private static final class Fit {
        private final int number;
        private final int kind;
        private final int degree;
        private final Points points;
        private final Polynomial[] parts;
        private final int[] partBegins;
        private int partCount;

        Fit(int number, int kind, int degree, Points points) {
            this.number = number;
            this.kind = kind;
            this.degree = degree;
            this.points = points;
            int room = kind == KIND_PIECES ? Math.max(points.size, 1) : 1;
            parts = new Polynomial[room];
            partBegins = new int[room];
            // The first one is there even where PIECES have none: then it tells 0, as is due.
            parts[0] = new Polynomial();
            partCount = kind == KIND_PIECES ? 0 : 1;
        }

        Polynomial firstPart() {
            return parts[0];
        }

        /** There are never more PIECES than POINTS, for which there is room. */
        Polynomial addPart(int begin) {
            Polynomial added = new Polynomial();
            if (partCount < parts.length) {
                parts[partCount] = added;
                partBegins[partCount] = begin;
                partCount++;
            }
            return added;
        }

        boolean hasPart(int part) {
            return part >= 0 && part < partCount;
        }

        Polynomial partFor(int x) {
            int found = 0;
            for (int part = 1; part < partCount; part++) {
                if (points.places[partBegins[part]] <= x) {
                    found = part;
                }
            }
            return parts[found];
        }

        /** MISSES are told as a number above the line and one below it; without POINTS, at -1, as 0 and 1. */
        long missAbove(int i) {
            if (!points.has(i)) {
                return 0;
            }
            int place = points.places[i];
            Polynomial part = partFor(place);
            return points.weights[i] * (points.values[i] * part.below - part.aboveAt(place));
        }

        long missBelow(int i) {
            return points.has(i) ? partFor(points.places[i]).below : 1;
        }

        long missSize(int i) {
            return Math.abs(missAbove(i));
        }

        private int compareMisses(int i, int j) {
            return Long.compare(missSize(i) * missBelow(j), missSize(j) * missBelow(i));
        }

        /** The first POINT that is FAR, -1 without POINTS. */
        int farthest() {
            int found = points.size > 0 ? 0 : -1;
            for (int i = 1; i < points.size; i++) {
                if (compareMisses(i, found) > 0) {
                    found = i;
                }
            }
            return found;
        }

        int farCount() {
            int farthest = farthest();
            int count = 0;
            for (int i = 0; i < points.size; i++) {
                if (compareMisses(i, farthest) == 0) {
                    count++;
                }
            }
            return count;
        }

        int farPoint(int k) {
            int farthest = farthest();
            int before = 0;
            for (int i = 0; i < points.size; i++) {
                if (compareMisses(i, farthest) == 0) {
                    if (before == k) {
                        return i;
                    }
                    before++;
                }
            }
            return NONE;
        }

        int freeNumbers() {
            return kind == KIND_EVEN ? 2 : degree + 1;
        }

        boolean hasTurns() {
            return (kind == KIND_LINE || kind == KIND_EVEN) && points.size > freeNumbers();
        }

        boolean areTurns(int bits) {
            return hasTurns() && bits >= 0 && bits >> points.size == 0
                && Integer.bitCount(bits) == freeNumbers() + 1;
        }

        /**
         * TURNS whose LOW is the LEVEL have the FIT itself as their polynomial, so they are FAR POINTS whose MISSES
         * change sign from each to the next. Of these, taking each as early as it can be gives the first ones.
         */
        int theTurns() {
            long level = missSize(farthest());
            int bits = 0;
            int found = 0;
            boolean latestIsAbove = false;
            for (int i = 0; i < points.size && found <= freeNumbers(); i++) {
                long miss = missAbove(i);
                boolean turns = found == 0 || miss == 0 || (miss > 0) != latestIsAbove;
                if (Math.abs(miss) == level && turns) {
                    bits |= 1 << i;
                    found++;
                    latestIsAbove = miss > 0;
                }
            }
            return bits;
        }
    }

    /**
     * Works on a row of POINTS: the polynomial of TURNS, their SWAPS, and so the polynomial of the least LEVEL.
     * Its rows are made once and used again by all calls.
     */
    private static final class Leveller {
        /** Divided by any WEIGHT it is whole. */
        private static final int ALL_WEIGHTS = 12;
        private static final int MOST_TURNS = 4;
        /** LOW grows with each SWAP, so no TURNS come twice, and of 12 POINTS there are 495 TURNS at most. */
        private static final int MOST_SWAPS = 1000;

        /** What the polynomial is taken of: PLACES, of EVEN FITS their squares. */
        private final long[] nodes = new long[MOST_POINTS];
        private final long[] values = new long[MOST_POINTS];
        private final long[] weights = new long[MOST_POINTS];
        private final int[] picks = new int[MOST_TURNS];
        private final long[] heights = new long[MOST_TURNS];
        private final long[] basis = new long[3];
        private final long[] sums = new long[3];
        private final Polynomial polynomial = new Polynomial();
        private int size = 0;
        private int free = 1;
        private boolean squared = false;

        /** The polynomial of the least LEVEL over the POINTS from .. to - 1 of a FIT. */
        void levelRow(Fit f, int from, int to) {
            load(f, from, to);
            int picked = Math.min(size, free + 1);
            for (int i = 0; i < picked && i < MOST_TURNS; i++) {
                picks[i] = i;
            }
            if (size > free) {
                solve();
                settle();
            } else {
                passThroughAll();
            }
        }

        /** For bits that are TURNS of the FIT. */
        void takeTurns(Fit f, int bits) {
            load(f, 0, f.points.size);
            int picked = 0;
            for (int i = 0; i < size && picked < MOST_TURNS; i++) {
                if ((bits >> i & 1) == 1) {
                    picks[picked] = i;
                    picked++;
                }
            }
            solve();
        }

        int turnBits() {
            int bits = 0;
            for (int i = 0; i <= free && i < MOST_TURNS; i++) {
                bits |= 1 << picks[i];
            }
            return bits;
        }

        /** LOW times what stands below the line in the polynomial. */
        long lowAbove() {
            return Math.abs(missAbove(picks[0]));
        }

        /** After levelRow: whether the row's LEVEL is at most p / q. */
        boolean levelIsAtMost(int p, int q) {
            return size <= free || lowAbove() * q <= p * polynomial.below;
        }

        void hand(Polynomial to) {
            if (squared) {
                to.become(polynomial.c0, 0, polynomial.c1, polynomial.below);
            } else {
                to.become(polynomial.c0, polynomial.c1, polynomial.c2, polynomial.below);
            }
        }

        /** SWAPS till the TURNS stay as they are: how many. */
        int settle() {
            for (int swapped = 0; swapped < MOST_SWAPS; swapped++) {
                if (!exchange()) {
                    return swapped;
                }
                solve();
            }
            return MOST_SWAPS;
        }

        /** One SWAP of solved TURNS: whether they changed. */
        boolean exchange() {
            int comer = farthest();
            long miss = missAbove(comer);
            if (Math.abs(miss) <= lowAbove()) {
                return false;
            }
            // SIGNS take turns, so every other one is as that of the comer's MISS: from 0 on, or from 1 on.
            boolean firstIsAbove = missAbove(picks[0]) >= 0;
            int parity = firstIsAbove == (miss > 0) ? 0 : 1;
            int next = 0;
            while (next <= free && next < MOST_TURNS && picks[next] < comer) {
                next++;
            }
            if (next <= free && next % 2 == parity) {
                picks[next] = comer;
            } else if (next > 0 && (next - 1) % 2 == parity) {
                picks[next - 1] = comer;
            } else if (next == 0) {
                comeFirst(comer);
            } else {
                comeLast(comer);
            }
            return true;
        }

        private void comeFirst(int comer) {
            for (int i = Math.min(free, MOST_TURNS - 1); i > 0; i--) {
                picks[i] = picks[i - 1];
            }
            picks[0] = comer;
        }

        private void comeLast(int comer) {
            int last = Math.min(free, MOST_TURNS - 1);
            for (int i = 0; i < last; i++) {
                picks[i] = picks[i + 1];
            }
            picks[last] = comer;
        }

        private void load(Fit f, int from, int to) {
            free = f.freeNumbers();
            squared = f.kind == KIND_EVEN;
            size = 0;
            for (int i = from; i < to && f.points.has(i) && size < MOST_POINTS; i++) {
                long place = f.points.places[i];
                nodes[size] = squared ? place * place : place;
                values[size] = f.points.values[i];
                weights[size] = f.points.weights[i];
                size++;
            }
        }

        /** What stands above the line in a MISS by the polynomial; all have the polynomial's number below it. */
        private long missAbove(int i) {
            return weights[i] * (values[i] * polynomial.below - polynomial.aboveAt(nodes[i]));
        }

        private int farthest() {
            int found = 0;
            for (int i = 1; i < size; i++) {
                if (Math.abs(missAbove(i)) > Math.abs(missAbove(found))) {
                    found = i;
                }
            }
            return found;
        }

        /**
         * The polynomial of the TURNS. With every other one counted below 0, the spreads of the others rub out each
         * polynomial of the sort, which leaves h; the polynomial then goes through what h leaves of the VALUES.
         */
        private void solve() {
            long above = 0;
            long below = 0;
            for (int i = 0; i <= free && i < MOST_TURNS; i++) {
                long spread = spreadWithout(i, free + 1);
                above += sign(i) * spread * values[picks[i]];
                below += spread * weightShare(picks[i]);
            }
            for (int i = 0; i < free && i < MOST_TURNS; i++) {
                heights[i] = values[picks[i]] * below - sign(i) * weightShare(picks[i]) * above;
            }
            interpolate(free, below);
        }

        private void passThroughAll() {
            for (int i = 0; i < size && i < MOST_TURNS; i++) {
                heights[i] = values[i];
            }
            interpolate(size, 1);
        }

        private long weightShare(int i) {
            return weights[i] > 0 ? ALL_WEIGHTS / weights[i] : ALL_WEIGHTS;
        }

        private static int sign(int i) {
            return i % 2 == 0 ? 1 : -1;
        }

        /** The polynomial of the least degree through the first k picks, 3 at most, at their heights / scale. */
        private void interpolate(int k, long scale) {
            sums[0] = 0;
            sums[1] = 0;
            sums[2] = 0;
            for (int i = 0; i < k && i < MOST_TURNS; i++) {
                long factor = sign(k - 1 - i) * spreadWithout(i, k) * heights[i];
                makeBasis(i, k);
                sums[0] += factor * basis[0];
                sums[1] += factor * basis[1];
                sums[2] += factor * basis[2];
            }
            polynomial.become(sums[0], sums[1], sums[2], scale * spreadWithout(-1, k));
        }

        /** The product of (x - node) over the first k picks but the i-th. */
        private void makeBasis(int i, int k) {
            basis[0] = 1;
            basis[1] = 0;
            basis[2] = 0;
            for (int j = 0; j < k && j < MOST_TURNS; j++) {
                if (j != i) {
                    long node = nodes[picks[j]];
                    basis[2] = basis[1] - node * basis[2];
                    basis[1] = basis[0] - node * basis[1];
                    basis[0] = -node * basis[0];
                }
            }
        }

        /** The product of all differences between the nodes of the first k picks but the i-th: above 0. */
        private long spreadWithout(int i, int k) {
            long product = 1;
            for (int a = 0; a < k && a < MOST_TURNS; a++) {
                for (int b = a + 1; b < k && b < MOST_TURNS; b++) {
                    if (a != i && b != i) {
                        product *= nodes[picks[b]] - nodes[picks[a]];
                    }
                }
            }
            return product;
        }
    }

    /** Looks for the numbers of a SHORT FIT; all numbers in it are taken 2^bits times, so they are whole. */
    private static final class ShortSearch {
        private final int[] rests = new int[MOST_POINTS];
        private int bestC0 = 0;
        private int bestC1 = 0;

        void search(Points points, int degree, int bits) {
            int most = degree == 0 ? 0 : 8 << bits;
            int bestLevel = -1;
            for (int c1 = -most; c1 <= most; c1++) {
                for (int i = 0; i < points.size; i++) {
                    rests[i] = (points.values[i] << bits) - c1 * points.places[i];
                }
                int c0 = leastC0(points, 64 << bits);
                int level = levelAt(points, c0);
                boolean better = bestLevel < 0 || level < bestLevel || level == bestLevel && c0 < bestC0;
                if (better) {
                    bestLevel = level;
                    bestC0 = c0;
                    bestC1 = c1;
                }
            }
        }

        /** The level falls as c0 grows, stays at its least and rises; the first c0 after which it does not fall. */
        private int leastC0(Points points, int most) {
            int from = -most;
            int to = most;
            for (int step = 0; step < 32 && from < to; step++) {
                int middle = Math.floorDiv(from + to, 2);
                if (levelAt(points, middle) <= levelAt(points, middle + 1)) {
                    to = middle;
                } else {
                    from = middle + 1;
                }
            }
            return from;
        }

        private int levelAt(Points points, int c0) {
            int level = 0;
            for (int i = 0; i < points.size; i++) {
                level = Math.max(level, points.weights[i] * Math.abs(rests[i] - c0));
            }
            return level;
        }
    }

    /** Runs ACTS and keeps THE TRACE. */
    private static final class Acts {
        /** No act goes deeper than some seven bodies. */
        private static final int MOST_DEPTH = 20;

        private final int[] bodies = new int[MOST_BODIES];
        private int kept = 0;

        int start(Fit f, int act, int x) {
            kept = 0;
            return run(f, f.kind, act, x, 0);
        }

        /** Runs the body that an act has from a KIND on. */
        private int run(Fit f, int kind, int act, int x, int depth) {
            int body = bodyFrom(kind, act);
            if (body == 0 || depth > MOST_DEPTH) {
                return x;
            }
            if (kept < MOST_BODIES) {
                bodies[kept] = body;
                kept++;
            }
            return runBody(f, body, x, depth + 1);
        }

        private int runBody(Fit f, int body, int x, int depth) {
            int m = f.points.size;
            switch (body) {
                case 10:
                    return x + m;
                case 11:
                    return run(f, f.kind, ACT_FIT, x, depth) * 2;
                case 12:
                    return x - f.number;
                case 13:
                    return run(f, f.kind, ACT_MISS, x, depth) ^ run(f, f.kind, ACT_BEND, x, depth);
                case 20:
                    return run(f, KIND_FIT, ACT_FIT, x, depth) + 1;
                case 21:
                    return run(f, KIND_FIT, ACT_BEND, x, depth) * 3;
                case 30:
                    return run(f, KIND_LINE, ACT_MISS, x - m, depth);
                case 31:
                    return run(f, f.kind, ACT_BEND, x, depth) + run(f, KIND_LINE, ACT_TELL, x, depth);
                case 40:
                    return run(f, KIND_FIT, ACT_BEND, x, depth) + run(f, KIND_FIT, ACT_FIT, x, depth);
                case 50:
                    return run(f, KIND_LINE, ACT_FIT, x * 2, depth);
                case 51:
                    return run(f, KIND_LINE, ACT_MISS, x, depth) - run(f, f.kind, ACT_FIT, x, depth);
                default:
                    return x;
            }
        }

        /** The number of the body of a KIND, or of the next KIND above that has one. */
        private static int bodyFrom(int kind, int act) {
            int at = kind;
            for (int step = 0; step < KINDS && at >= 0 && at < KINDS; step++) {
                int body = BODIES[at * ACTS + act];
                if (body != 0) {
                    return body;
                }
                at = KIND_ABOVE[at];
            }
            return 0;
        }
    }

    /** A row of numbers of a sort. Every sort holds -100 .. 100, so all are held alike. */
    private static final class Sheet {
        private final int sort;
        private final int[] cells;

        Sheet(int sort, int size) {
            this.sort = sort;
            cells = new int[Math.max(size, 0)];
        }

        boolean has(int i) {
            return i >= 0 && i < cells.length;
        }
    }
}
