import java.util.Arrays;

/** A new object with its run of calls, each held against what is due; no run has more calls than are promised. */
final class Run {
    private final LevelFits fits = new LevelFits();
    private final Check check;
    private int calls = 0;

    Run(Check check) {
        this.check = check;
    }

    Run another() {
        return new Run(check);
    }

    long call(String name, int... numbers) {
        calls++;
        if (calls > Face.MOST_CALLS) {
            throw new IllegalStateException("a test makes more calls than are promised");
        }
        return Face.answer(fits, name, numbers);
    }

    /** A question's answer. */
    void tells(long due, String name, int... numbers) {
        check.due(Face.text(name, numbers), call(name, numbers), due);
    }

    /** The answer of a call that is no question and is done. */
    void done(long due, String name, int... numbers) {
        tells(due, name, numbers);
        check.due("status() after " + Face.text(name, numbers), call("status"), 0);
    }

    /** A call that is no question and is refused with a STATUS. */
    void refused(int status, String name, int... numbers) {
        tells(-1, name, numbers);
        check.due("status() after " + Face.text(name, numbers), call("status"), status);
    }

    /** A fraction that a question tells; its last number, the what, is left out. */
    void fraction(long above, long below, String name, int... numbers) {
        int[] asked = Arrays.copyOf(numbers, numbers.length + 1);
        tells(above, name, asked);
        asked[numbers.length] = 1;
        tells(below, name, asked);
    }

    /** The numbers of a FIT, or of PIECE 0 of it, each as above the line and below it. */
    void numbers(int fit, long... aboveAndBelow) {
        for (int power = 0; power < 3; power++) {
            fraction(aboveAndBelow[2 * power], aboveAndBelow[2 * power + 1], "number", fit, 0, power);
        }
    }

    /** POINTS of WEIGHT 1 at the PLACES first, first + 1, .. */
    void row(int set, int first, int... values) {
        for (int i = 0; i < values.length; i++) {
            call("point", set, first + i, values[i], 1);
        }
    }

    /** A SHEET of a sort with these numbers. */
    void cells(int sheet, int sort, int... numbers) {
        call("sheet", sheet, sort, numbers.length);
        for (int i = 0; i < numbers.length; i++) {
            call("cell", sheet, i, numbers[i]);
        }
    }

    /** FITS 0 .. 4, FIT k of KIND k, for a SET whose PLACES are 0 or above. */
    void oneOfEachKind(int set) {
        call("fit", set, 0, 0, 0, 1);
        call("line", set, 0);
        call("even", set);
        call("shorts", set, 0, 0);
        call("pieces", set, 0, 1, 1);
    }

    void holds(String what, boolean so) {
        check.holds(what, so);
    }

    /** Numbers that lie outside least .. most: next to it, where a narrower type would wrap, and as far as can be. */
    static int[] beyond(int least, int most) {
        return new int[] {
            Integer.MIN_VALUE, Integer.MIN_VALUE + 1, least - 65536, least - 256, least - 1,
            most + 1, most + 256, most + 65536, Integer.MAX_VALUE - 1, Integer.MAX_VALUE
        };
    }
}
