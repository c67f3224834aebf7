import java.util.ArrayList;
import java.util.List;
import java.util.Random;

/** Long runs of calls with fixed seeds, each answer held against the reference's. */
public final class RandomRunsTest {
    private static final Check CHECK = new Check("random runs");
    private static final int[] ODD_NUMBERS = {
        Integer.MIN_VALUE, Integer.MIN_VALUE + 1, -1000, -101, -61, -13, -2, -1, 0, 1, 2, 3, 5, 6, 7, 10, 13, 40, 41,
        50, 61, 101, 1001, 10001, Integer.MAX_VALUE - 2, Integer.MAX_VALUE - 1, Integer.MAX_VALUE
    };

    /** A call with the least and the greatest number that are tried most for each argument. */
    private record Shape(String name, int often, int... ranges) {
    }

    private static final Shape[] SHAPES = {
        new Shape("point", 26, 0, 2, -12, 12, -60, 60, 1, 4),
        new Shape("take", 4, 0, 2, 0, 5),
        new Shape("fit", 2, 0, 2, -100, 100, -10, 10, -3, 3, 1, 6),
        new Shape("line", 4, 0, 2, 0, 2),
        new Shape("even", 3, 0, 2),
        new Shape("shorts", 2, 0, 2, 0, 1, 0, 2),
        new Shape("pieces", 4, 0, 2, 0, 2, 0, 80, 1, 4),
        new Shape("drop", 5),
        new Shape("pointTold", 2, 0, 2, 0, 11, 0, 2),
        new Shape("count", 2, 0, 7),
        new Shape("told", 4, 0, 9, 0, 4),
        new Shape("number", 8, 0, 9, 0, 3, 0, 2, 0, 1),
        new Shape("value", 6, 0, 9, -100, 100, 0, 1),
        new Shape("miss", 6, 0, 9, 0, 11, 0, 1),
        new Shape("level", 6, 0, 9, 0, 1),
        new Shape("far", 3, 0, 9, 0, 4),
        new Shape("begins", 3, 0, 9, 0, 4),
        new Shape("turns", 4, 0, 9),
        new Shape("low", 4, 0, 9, 0, 4095, 0, 1),
        new Shape("swap", 4, 0, 9, 0, 4095),
        new Shape("swaps", 4, 0, 9, 0, 4095),
        new Shape("against", 3, 0, 9, 0, 9),
        new Shape("same", 3, 0, 9, 0, 9),
        new Shape("act", 4, 0, 9, 0, 3, -1000, 1000),
        new Shape("trace", 3, 0, 11),
        new Shape("sheet", 3, 0, 3, -1, 2, 0, 8),
        new Shape("cell", 8, 0, 3, 0, 8, -12, 12),
        new Shape("points", 5, 0, 2, 0, 3, 0, 2, 0, 6),
        new Shape("forge", 8, 0, 6, -6, 9, -6, 9),
        new Shape("status", 6)
    };

    /** A call of the run that is no question, to be made once more on another object. */
    private record Made(String name, int[] numbers) {
    }

    private final Random random;
    private final Reference reference = new Reference();
    private final List<Made> changes = new ArrayList<>();
    private final String run;
    private LevelFits tested = new LevelFits();
    private int callsOfTested = 0;
    private int calls = 0;

    private RandomRunsTest(String run, long seed) {
        this.run = run;
        random = new Random(seed);
    }

    public static void main(String[] args) {
        for (int seed = 0; seed < 40; seed++) {
            RandomRunsTest test = new RandomRunsTest("seed " + seed, seed);
            for (int i = 0; i < 600; i++) {
                test.anyCall();
            }
            test.askAll();
        }
        for (int seed = 0; seed < 30; seed++) {
            new RandomRunsTest("full set, seed " + seed, seed).fullSet(seed);
        }
        CHECK.end();
    }

    private void anyCall() {
        int sum = 0;
        for (Shape shape : SHAPES) {
            sum += shape.often();
        }
        int left = random.nextInt(sum);
        int at = 0;
        while (left >= SHAPES[at].often()) {
            left -= SHAPES[at].often();
            at++;
        }
        Shape shape = SHAPES[at];
        int[] numbers = new int[shape.ranges().length / 2];
        for (int i = 0; i < numbers.length; i++) {
            numbers[i] = anyNumber(shape.ranges()[2 * i], shape.ranges()[2 * i + 1]);
        }
        if (shape.name().matches("low|swaps?") && random.nextInt(8) != 0) {
            chooseTurns(numbers);
        }
        call(shape.name(), numbers);
    }

    private int anyNumber(int least, int most) {
        int sort = random.nextInt(60);
        if (sort == 0) {
            return ODD_NUMBERS[random.nextInt(ODD_NUMBERS.length)];
        }
        if (sort == 1) {
            return least - 1;
        }
        if (sort == 2) {
            return most + 1;
        }
        return least + random.nextInt(most - least + 1);
    }

    /** By chance bits would hardly ever be TURNS. */
    private void chooseTurns(int[] numbers) {
        int size = Math.max(reference.told(numbers[0], 1), 1);
        int wanted = Integer.bitCount(Math.max(reference.turns(numbers[0]), 3));
        int bits = 0;
        for (int tries = 0; tries < 200 && Integer.bitCount(bits) < wanted; tries++) {
            bits |= 1 << random.nextInt(size);
        }
        numbers[1] = bits;
    }

    private void fullSet(int seed) {
        int least = seed % 2 == 0 ? 0 : -12;
        int span = seed % 5 == 0 ? 60 : 1 + random.nextInt(9);
        boolean heavy = seed % 3 != 0;
        for (int tries = 0; tries < 200 && reference.count(2) < 12; tries++) {
            int value = random.nextInt(2 * span + 1) - span;
            call("point", 0, least + random.nextInt(13 - least), value, heavy ? 1 + random.nextInt(4) : 1);
        }
        call("line", 0, 0);
        call("line", 0, 1);
        call("line", 0, 2);
        call("even", 0);
        call("shorts", 0, 1, random.nextInt(3));
        for (int degree = 0; degree < 3; degree++) {
            call("pieces", 0, degree, random.nextInt(4 * span), 1 + random.nextInt(5));
        }
        askAll();
        for (int i = 0; i < 40; i++) {
            int[] numbers = {random.nextInt(4), 0};
            chooseTurns(numbers);
            call("low", numbers[0], numbers[1], 0);
            call("low", numbers[0], numbers[1], 1);
            call("swap", numbers);
            call("swaps", numbers);
        }
    }

    /** Every question about what stands, so that nothing has changed that should not have. */
    private void askAll() {
        for (int f = 0; f < 10; f++) {
            for (int what = 0; what < 5; what++) {
                call("told", f, what);
            }
            call("turns", f);
            for (int what = 0; what < 2; what++) {
                call("level", f, what);
                for (int i = 0; i < 12; i++) {
                    call("miss", f, i, what);
                    call("number", f, i, 0, what);
                    call("number", f, i, 1, what);
                    call("number", f, i, 2, what);
                }
                for (int x = -14; x < 15; x++) {
                    call("value", f, x, what);
                }
            }
            for (int i = 0; i < 13; i++) {
                call("far", f, i);
                call("begins", f, i);
                call("against", f, i);
                call("same", f, i);
            }
        }
        for (int s = 0; s < 6; s++) {
            call("count", 2 + s);
            for (int i = 0; i < 12; i++) {
                call("pointTold", s, i, 0);
                call("pointTold", s, i, 1);
                call("pointTold", s, i, 2);
            }
        }
        call("status");
    }

    private void call(String name, int... numbers) {
        if (callsOfTested + 2 > Face.MOST_CALLS) {
            startAnew();
        }
        String call = run + ", call " + calls + ": " + Face.text(name, numbers);
        CHECK.due(call, Face.answer(tested, name, numbers), Face.answer(reference, name, numbers));
        CHECK.due("status() after " + call, tested.status(), reference.status());
        callsOfTested += 2;
        calls++;
        if (!Face.isQuestion(name)) {
            changes.add(new Made(name, numbers));
        }
    }

    /** No object is promised more than 512 calls: another one takes its place, without the questions. */
    private void startAnew() {
        tested = new LevelFits();
        callsOfTested = changes.size();
        for (Made made : changes) {
            Face.answer(tested, made.name(), made.numbers());
        }
    }
}
