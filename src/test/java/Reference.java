import java.util.ArrayList;
import java.util.Arrays;
import java.util.List;
import java.util.TreeMap;

/**
 * LevelFits once more, word by word after DOC.md and without a thought for speed: all TURNS are tried, all SHORT
 * numbers are tried, the KINDS are Java classes and the host's refusals are the host's own exceptions.
 */
public final class Reference {
    private static final long NO = -1000000000000L;

    record Point(int place, int value, int weight) {
    }

    record Solved(Fraction[] numbers, Fraction h) {
    }

    private static final List<Integer> TRACE = new ArrayList<>();

    static class Fit {
        int number;
        int degree = 2;
        List<Point> points;
        /** For each PIECE its numbers for x to the power 0 .. 2. */
        List<Fraction[]> parts = new ArrayList<>();
        List<Integer> begins = new ArrayList<>();
        /** THE TURNS, kept once they are found: they take long and never change. */
        int turns = -1;

        int kind() {
            return 0;
        }

        int fit(int x) {
            TRACE.add(10);
            return x + points.size();
        }

        int miss(int x) {
            TRACE.add(11);
            return fit(x) * 2;
        }

        int bend(int x) {
            TRACE.add(12);
            return x - number;
        }

        int tell(int x) {
            TRACE.add(13);
            return miss(x) ^ bend(x);
        }
    }

    static class Line extends Fit {
        @Override
        int kind() {
            return 1;
        }

        @Override
        int fit(int x) {
            TRACE.add(20);
            return super.fit(x) + 1;
        }

        @Override
        int bend(int x) {
            TRACE.add(21);
            return super.bend(x) * 3;
        }
    }

    static final class Even extends Line {
        @Override
        int kind() {
            return 2;
        }

        @Override
        int miss(int x) {
            TRACE.add(30);
            return super.miss(x - points.size());
        }

        @Override
        int tell(int x) {
            TRACE.add(31);
            return bend(x) + super.tell(x);
        }
    }

    static final class Short extends Fit {
        @Override
        int kind() {
            return 3;
        }

        @Override
        int bend(int x) {
            TRACE.add(40);
            return super.bend(x) + super.fit(x);
        }
    }

    static final class Pieces extends Line {
        @Override
        int kind() {
            return 4;
        }

        @Override
        int fit(int x) {
            TRACE.add(50);
            return super.fit(x * 2);
        }

        @Override
        int miss(int x) {
            TRACE.add(51);
            return super.miss(x) - fit(x);
        }
    }

    private final List<TreeMap<Integer, Point>> sets = new ArrayList<>();
    private final List<Fit> fits = new ArrayList<>();
    private final Object[] sheets = new Object[4];
    private List<Integer> trace = new ArrayList<>();
    private int status = 0;

    public Reference() {
        for (int i = 0; i < 6; i++) {
            sets.add(new TreeMap<>());
        }
    }

    private int end(int newStatus, int answer) {
        status = newStatus;
        return newStatus == 0 ? answer : -1;
    }

    private static boolean in(int n, int least, int most) {
        return least <= n && n <= most;
    }

    private static boolean tellsPoint(int place, int value, int weight) {
        return in(place, -12, 12) && in(value, -60, 60) && in(weight, 1, 4);
    }

    private Fit get(int fit) {
        return in(fit, 0, fits.size() - 1) ? fits.get(fit) : null;
    }

    private List<Point> pointsOf(int set) {
        return new ArrayList<>(sets.get(set).values());
    }

    public int point(int set, int place, int value, int weight) {
        if (!in(set, 0, 5) || !tellsPoint(place, value, weight)) {
            return end(1, 0);
        }
        TreeMap<Integer, Point> s = sets.get(set);
        if (s.size() == 12) {
            return end(2, 0);
        }
        if (s.containsKey(place)) {
            return end(3, 0);
        }
        s.put(place, new Point(place, value, weight));
        return end(0, s.size());
    }

    public int take(int set, int i) {
        if (!in(set, 0, 5) || !in(i, 0, sets.get(set).size() - 1)) {
            return end(1, 0);
        }
        sets.get(set).remove(pointsOf(set).get(i).place());
        return end(0, sets.get(set).size());
    }

    // ---- FITS

    private int come(Fit f, int set, int degree) {
        f.number = fits.size();
        f.degree = degree;
        f.points = pointsOf(set);
        fits.add(f);
        return end(0, f.number);
    }

    private int statusForFit(int set, boolean numbers) {
        if (!in(set, 0, 5) || !numbers) {
            return 1;
        }
        return fits.size() == 10 ? 2 : 0;
    }

    public int fit(int set, int c0, int c1, int c2, int d) {
        boolean numbers = in(c0, -1000, 1000) && in(c1, -1000, 1000) && in(c2, -1000, 1000) && in(d, 1, 60);
        int s = statusForFit(set, numbers);
        if (s != 0) {
            return end(s, 0);
        }
        Fit f = new Fit();
        f.parts.add(new Fraction[] {Fraction.of(c0, d), Fraction.of(c1, d), Fraction.of(c2, d)});
        return come(f, set, 2);
    }

    public int line(int set, int degree) {
        int s = statusForFit(set, in(degree, 0, 2));
        if (s != 0) {
            return end(s, 0);
        }
        Fit f = new Line();
        f.parts.add(best(pointsOf(set), powersOf(degree)));
        return come(f, set, degree);
    }

    public int even(int set) {
        int s = statusForFit(set, true);
        if (s == 0 && pointsOf(set).stream().anyMatch(p -> p.place() < 0)) {
            s = 3;
        }
        if (s != 0) {
            return end(s, 0);
        }
        Fit f = new Even();
        f.parts.add(best(pointsOf(set), new int[] {0, 2}));
        return come(f, set, 2);
    }

    public int shorts(int set, int degree, int bits) {
        int s = statusForFit(set, in(degree, 0, 1) && in(bits, 0, 2));
        if (s != 0) {
            return end(s, 0);
        }
        List<Point> points = pointsOf(set);
        int scale = 1 << bits;
        int most = degree == 0 ? 0 : 8 * scale;
        long bestLevel = Long.MAX_VALUE;
        Fraction[] bestNumbers = null;
        for (int c0 = -64 * scale; c0 <= 64 * scale; c0++) {
            for (int c1 = -most; c1 <= most; c1++) {
                long level = 0;
                for (Point p : points) {
                    level = Math.max(level, Math.abs(p.weight() * (p.value() * scale - c0 - c1 * p.place())));
                }
                if (level < bestLevel) {
                    bestLevel = level;
                    bestNumbers = new Fraction[] {Fraction.of(c0, scale), Fraction.of(c1, scale), Fraction.ZERO};
                }
            }
        }
        Fit f = new Short();
        f.parts.add(bestNumbers);
        return come(f, set, degree);
    }

    public int pieces(int set, int degree, int p, int q) {
        int s = statusForFit(set, in(degree, 0, 2) && in(p, 0, 10000) && in(q, 1, 1000));
        if (s != 0) {
            return end(s, 0);
        }
        Fit f = new Pieces();
        List<Point> points = pointsOf(set);
        int size = points.size();
        boolean[][] fine = new boolean[size + 1][size + 1];
        for (int from = 0; from < size; from++) {
            for (int to = from + 1; to <= size; to++) {
                List<Point> row = points.subList(from, to);
                Fraction[] numbers = best(row, powersOf(degree));
                fine[from][to] = levelOf(numbers, row).compareTo(Fraction.of(p, q)) <= 0;
            }
        }
        // fewest[i]: how many rows the POINTS from i on need at least
        int[] fewest = new int[size + 1];
        for (int from = size - 1; from >= 0; from--) {
            fewest[from] = Integer.MAX_VALUE;
            for (int to = from + 1; to <= size; to++) {
                if (fine[from][to]) {
                    fewest[from] = Math.min(fewest[from], 1 + fewest[to]);
                }
            }
        }
        int from = 0;
        while (from < size) {
            int to = size;
            while (!fine[from][to] || 1 + fewest[to] != fewest[from]) {
                to--;
            }
            f.begins.add(from);
            f.parts.add(best(points.subList(from, to), powersOf(degree)));
            from = to;
        }
        return come(f, set, degree);
    }

    public int drop() {
        if (fits.isEmpty()) {
            return end(3, 0);
        }
        fits.remove(fits.size() - 1);
        return end(0, fits.size());
    }

    // ---- levelling

    private static int[] powersOf(int degree) {
        return Arrays.copyOf(new int[] {0, 1, 2}, degree + 1);
    }

    private static Fraction power(int x, int power) {
        Fraction result = Fraction.ONE;
        for (int i = 0; i < power; i++) {
            result = result.times(Fraction.of(x));
        }
        return result;
    }

    private static Fraction at(Fraction[] numbers, int x) {
        Fraction sum = Fraction.ZERO;
        for (int i = 0; i < 3; i++) {
            sum = sum.plus(numbers[i].times(power(x, i)));
        }
        return sum;
    }

    private static Fraction missOf(Fraction[] numbers, Point p) {
        return Fraction.of(p.value()).minus(at(numbers, p.place())).times(Fraction.of(p.weight()));
    }

    private static Fraction levelOf(Fraction[] numbers, List<Point> points) {
        Fraction level = Fraction.ZERO;
        for (Point p : points) {
            Fraction size = missOf(numbers, p).size();
            level = size.compareTo(level) > 0 ? size : level;
        }
        return level;
    }

    /** Rows of as many numbers as there are unknowns and one more. */
    private static Fraction[] eliminate(Fraction[][] rows) {
        int n = rows.length;
        for (int c = 0; c < n; c++) {
            int pivot = c;
            while (rows[pivot][c].sign() == 0) {
                pivot++;
            }
            Fraction[] swapped = rows[pivot];
            rows[pivot] = rows[c];
            rows[c] = swapped;
            for (int r = 0; r < n; r++) {
                if (r != c) {
                    Fraction factor = rows[r][c].over(rows[c][c]);
                    for (int i = c; i <= n; i++) {
                        rows[r][i] = rows[r][i].minus(factor.times(rows[c][i]));
                    }
                }
            }
        }
        Fraction[] found = new Fraction[n];
        for (int i = 0; i < n; i++) {
            found[i] = rows[i][n].over(rows[i][i]);
        }
        return found;
    }

    private static Fraction[] spelledOut(Fraction[] found, int[] powers, int used) {
        Fraction[] numbers = {Fraction.ZERO, Fraction.ZERO, Fraction.ZERO};
        for (int i = 0; i < used; i++) {
            numbers[powers[i]] = found[i];
        }
        return numbers;
    }

    private static Solved solve(List<Point> turns, int[] powers) {
        int n = turns.size();
        Fraction[][] rows = new Fraction[n][n + 1];
        for (int i = 0; i < n; i++) {
            Point p = turns.get(i);
            for (int c = 0; c < n - 1; c++) {
                rows[i][c] = power(p.place(), powers[c]);
            }
            rows[i][n - 1] = Fraction.of(i % 2 == 0 ? 1 : -1, p.weight());
            rows[i][n] = Fraction.of(p.value());
        }
        Fraction[] found = eliminate(rows);
        return new Solved(spelledOut(found, powers, n - 1), found[n - 1]);
    }

    private static Fraction[] through(List<Point> points, int[] powers) {
        int n = points.size();
        Fraction[][] rows = new Fraction[n][n + 1];
        for (int i = 0; i < n; i++) {
            for (int c = 0; c < n; c++) {
                rows[i][c] = power(points.get(i).place(), powers[c]);
            }
            rows[i][n] = Fraction.of(points.get(i).value());
        }
        return spelledOut(eliminate(rows), powers, n);
    }

    private static List<Point> chosen(List<Point> points, int bits) {
        List<Point> found = new ArrayList<>();
        for (int i = 0; i < points.size(); i++) {
            if ((bits >> i & 1) == 1) {
                found.add(points.get(i));
            }
        }
        return found;
    }

    /** Whether the first POINT that only one of both has belongs to a. */
    private static boolean comesAhead(int a, int b) {
        int differing = a ^ b;
        return (a & Integer.lowestOneBit(differing)) != 0;
    }

    private static int theTurns(List<Point> points, int[] powers) {
        int found = 0;
        Fraction greatest = null;
        for (int bits = 0; bits < 1 << points.size(); bits++) {
            if (Integer.bitCount(bits) == powers.length + 1) {
                Fraction low = solve(chosen(points, bits), powers).h().size();
                int c = greatest == null ? 1 : low.compareTo(greatest);
                if (c > 0 || c == 0 && comesAhead(bits, found)) {
                    found = bits;
                    greatest = low;
                }
            }
        }
        return found;
    }

    private static Fraction[] best(List<Point> points, int[] powers) {
        if (points.size() <= powers.length) {
            return through(points, powers);
        }
        Solved solved = solve(chosen(points, theTurns(points, powers)), powers);
        // No polynomial of the sort has a LEVEL below a LOW, so this shows that none is better.
        if (!levelOf(solved.numbers(), points).is(solved.h().size())) {
            throw new IllegalStateException("the LEVEL is not the greatest LOW");
        }
        return solved.numbers();
    }

    // ---- questions

    private static long tell(Fraction f, int what) {
        if (what == 0) {
            return f.above.longValueExact();
        }
        return what == 1 ? f.below.longValueExact() : NO;
    }

    private static Fraction[] partFor(Fit f, int x) {
        if (f.parts.isEmpty()) {
            return new Fraction[] {Fraction.ZERO, Fraction.ZERO, Fraction.ZERO};
        }
        for (int i = f.begins.size() - 1; i > 0; i--) {
            if (f.points.get(f.begins.get(i)).place() <= x) {
                return f.parts.get(i);
            }
        }
        return f.parts.get(0);
    }

    private static Fraction missOf(Fit f, int i) {
        Point p = f.points.get(i);
        return missOf(partFor(f, p.place()), p);
    }

    private static Fraction levelOf(Fit f) {
        Fraction level = Fraction.ZERO;
        for (int i = 0; i < f.points.size(); i++) {
            Fraction size = missOf(f, i).size();
            level = size.compareTo(level) > 0 ? size : level;
        }
        return level;
    }

    private static List<Integer> fars(Fit f) {
        List<Integer> found = new ArrayList<>();
        for (int i = 0; i < f.points.size(); i++) {
            if (missOf(f, i).size().is(levelOf(f))) {
                found.add(i);
            }
        }
        return found;
    }

    public long pointTold(int set, int i, int what) {
        if (!in(set, 0, 5) || !in(i, 0, sets.get(set).size() - 1) || !in(what, 0, 2)) {
            return NO;
        }
        Point p = pointsOf(set).get(i);
        return new int[] {p.place(), p.value(), p.weight()}[what];
    }

    public int count(int what) {
        if (what == 0) {
            return fits.size();
        }
        if (what == 1) {
            return trace.size();
        }
        return in(what, 2, 7) ? sets.get(what - 2).size() : -1;
    }

    public int told(int fit, int what) {
        Fit f = get(fit);
        if (f == null || !in(what, 0, 4)) {
            return -1;
        }
        return new int[] {f.kind(), f.points.size(), f.degree, fars(f).size(), f.parts.size()}[what];
    }

    public long number(int fit, int piece, int power, int what) {
        Fit f = get(fit);
        if (f == null || !in(power, 0, 2)) {
            return NO;
        }
        int part = f instanceof Pieces ? piece : 0;
        return in(part, 0, f.parts.size() - 1) ? tell(f.parts.get(part)[power], what) : NO;
    }

    public long value(int fit, int x, int what) {
        Fit f = get(fit);
        return f == null || !in(x, -100, 100) ? NO : tell(at(partFor(f, x), x), what);
    }

    public long miss(int fit, int i, int what) {
        Fit f = get(fit);
        return f == null || !in(i, 0, f.points.size() - 1) ? NO : tell(missOf(f, i), what);
    }

    public long level(int fit, int what) {
        Fit f = get(fit);
        return f == null ? NO : tell(levelOf(f), what);
    }

    public int far(int fit, int k) {
        Fit f = get(fit);
        return f == null || !in(k, 0, fars(f).size() - 1) ? -1 : fars(f).get(k);
    }

    public int begins(int fit, int piece) {
        Fit f = get(fit);
        return f instanceof Pieces && in(piece, 0, f.begins.size() - 1) ? f.begins.get(piece) : -1;
    }

    /** Null: a FIT that has no TURNS. */
    private static int[] powersOfTurns(Fit f) {
        if (f == null || f.kind() != 1 && f.kind() != 2) {
            return null;
        }
        int[] powers = f.kind() == 1 ? powersOf(f.degree) : new int[] {0, 2};
        return f.points.size() > powers.length ? powers : null;
    }

    public int turns(int fit) {
        int[] powers = powersOfTurns(get(fit));
        if (powers != null && get(fit).turns < 0) {
            get(fit).turns = theTurns(get(fit).points, powers);
        }
        return powers == null ? -1 : get(fit).turns;
    }

    private boolean areTurns(int fit, int bits) {
        int[] powers = powersOfTurns(get(fit));
        return powers != null && in(bits, 0, (1 << get(fit).points.size()) - 1)
            && Integer.bitCount(bits) == powers.length + 1;
    }

    public long low(int fit, int bits, int what) {
        if (!areTurns(fit, bits)) {
            return NO;
        }
        Fit f = get(fit);
        return tell(solve(chosen(f.points, bits), powersOfTurns(f)).h().size(), what);
    }

    public int swap(int fit, int bits) {
        if (!areTurns(fit, bits)) {
            return -1;
        }
        Fit f = get(fit);
        Solved solved = solve(chosen(f.points, bits), powersOfTurns(f));
        int comer = 0;
        for (int i = 1; i < f.points.size(); i++) {
            Fraction size = missOf(solved.numbers(), f.points.get(i)).size();
            if (size.compareTo(missOf(solved.numbers(), f.points.get(comer)).size()) > 0) {
                comer = i;
            }
        }
        Fraction miss = missOf(solved.numbers(), f.points.get(comer));
        if (miss.size().compareTo(solved.h().size()) <= 0) {
            return bits;
        }
        return bits & ~(1 << goer(f, bits, solved, comer, miss.sign())) | 1 << comer;
    }

    private static int goer(Fit f, int bits, Solved solved, int comer, int sign) {
        List<Integer> turns = new ArrayList<>();
        for (int i = 0; i < f.points.size(); i++) {
            if ((bits >> i & 1) == 1) {
                turns.add(i);
            }
        }
        int last = turns.size() - 1;
        if (comer < turns.get(0)) {
            return signOf(f, turns, solved, 0) == sign ? turns.get(0) : turns.get(last);
        }
        if (comer > turns.get(last)) {
            return signOf(f, turns, solved, last) == sign ? turns.get(last) : turns.get(0);
        }
        int ahead = 0;
        while (turns.get(ahead + 1) < comer) {
            ahead++;
        }
        return signOf(f, turns, solved, ahead) == sign ? turns.get(ahead) : turns.get(ahead + 1);
    }

    private static int signOf(Fit f, List<Integer> turns, Solved solved, int i) {
        if (solved.h().sign() == 0) {
            return i % 2 == 0 ? 1 : -1;
        }
        return missOf(solved.numbers(), f.points.get(turns.get(i))).sign();
    }

    public int swaps(int fit, int bits) {
        if (!areTurns(fit, bits)) {
            return -1;
        }
        int made = 0;
        int now = bits;
        while (swap(fit, now) != now) {
            now = swap(fit, now);
            made++;
        }
        return made;
    }

    public int against(int a, int b) {
        return get(a) == null || get(b) == null ? -2 : levelOf(get(a)).compareTo(levelOf(get(b)));
    }

    public int same(int a, int b) {
        if (get(a) == null || get(b) == null || get(a) instanceof Pieces || get(b) instanceof Pieces) {
            return -1;
        }
        for (int i = 0; i < 3; i++) {
            if (!get(a).parts.get(0)[i].is(get(b).parts.get(0)[i])) {
                return 0;
            }
        }
        return 1;
    }

    // ---- ACTS

    public int act(int fit, int act, int x) {
        Fit f = get(fit);
        if (f == null || !in(act, 0, 3)) {
            return end(1, 0);
        }
        TRACE.clear();
        int answer = act == 0 ? f.fit(x) : act == 1 ? f.miss(x) : act == 2 ? f.bend(x) : f.tell(x);
        trace = new ArrayList<>(TRACE.subList(0, Math.min(50, TRACE.size())));
        return end(0, answer);
    }

    public int trace(int i) {
        return in(i, 0, trace.size() - 1) ? trace.get(i) : -1;
    }

    // ---- SHEETS and the host

    public int sheet(int sheet, int sort, int n) {
        if (!in(sheet, 0, 3) || !in(sort, -1, 2) || sort >= 0 && !in(n, 0, 40)) {
            return end(1, 0);
        }
        sheets[sheet] = sort < 0 ? null : sort == 0 ? new byte[n] : sort == 1 ? (Object) new int[n] : new long[n];
        return end(0, 1);
    }

    public int cell(int sheet, int i, int v) {
        if (!in(sheet, 0, 3) || !in(v, -100, 100)) {
            return end(1, 0);
        }
        Object s = sheets[sheet];
        try {
            if (s instanceof byte[] b) {
                b[i] = (byte) v;
            } else if (s instanceof int[] n) {
                n[i] = v;
            } else {
                ((long[]) s)[i] = v;
            }
            return end(0, 1);
        } catch (RuntimeException e) {
            return end(statusOf(e), 0);
        }
    }

    public int points(int set, int sheet, int sort, int i) {
        if (!in(set, 0, 5) || !in(sheet, 0, 3) || !in(sort, 0, 2)) {
            return end(1, 0);
        }
        if (sets.get(set).size() == 12) {
            return end(2, 0);
        }
        int[] told = new int[3];
        try {
            for (int t = 0; t < 3; t++) {
                Object s = sheets[sheet];
                int at = Math.addExact(i, t);
                told[t] = sort == 0 ? ((byte[]) s)[at] : sort == 1 ? ((int[]) s)[at] : (int) ((long[]) s)[at];
            }
        } catch (RuntimeException e) {
            return end(statusOf(e), 0);
        }
        if (!tellsPoint(told[0], told[1], told[2]) || sets.get(set).containsKey(told[0])) {
            return end(3, 0);
        }
        return point(set, told[0], told[1], told[2]);
    }

    public int forge(int what, int n, int k) {
        if (!in(what, 0, 6) || !in(n, -100, 100) || !in(k, -100, 100)) {
            return end(1, 0);
        }
        try {
            return end(0, host(what, n, k));
        } catch (RuntimeException e) {
            return end(statusOf(e), 0);
        }
    }

    private int host(int what, int n, int k) {
        Fit f = get(Math.floorMod(k, 10));
        Object s = sheets[Math.floorMod(k, 4)];
        switch (what) {
            case 0: {
                Class<?>[] kinds = {Fit.class, Line.class, Even.class, Short.class, Pieces.class};
                return ((Fit) kinds[Math.floorMod(n, 5)].cast(f)).kind();
            }
            case 1:
                return new int[n].length;
            case 2:
                return ((int[]) s)[n];
            case 3: {
                byte[] row = new byte[6];
                System.arraycopy((byte[]) s, 1, row, n, n);
                int sum = 0;
                for (byte b : row) {
                    sum += b;
                }
                return sum;
            }
            case 4: {
                Fit[] row = new Line[1];
                row[0] = f;
                return f == null ? 0 : row[0].kind();
            }
            case 5:
                return 1000 / n;
            default:
                try {
                    throw Math.floorMod(n, 2) == 0 ? (RuntimeException) null : new IllegalStateException();
                } catch (IllegalStateException e) {
                    return 1;
                }
        }
    }

    private static int statusOf(RuntimeException e) {
        if (e instanceof NullPointerException) {
            return 10;
        }
        if (e instanceof ClassCastException) {
            return 11;
        }
        if (e instanceof IndexOutOfBoundsException) {
            return 12;
        }
        if (e instanceof NegativeArraySizeException) {
            return 13;
        }
        if (e instanceof ArrayStoreException) {
            return 14;
        }
        // Past all int places, or divided by 0.
        return "integer overflow".equals(e.getMessage()) ? 12 : 15;
    }

    public int status() {
        return status;
    }
}
