import java.lang.reflect.Method;
import java.util.Arrays;
import java.util.Set;
import java.util.stream.Collectors;

/** Calls of the document's face by their names, on LevelFits or on the reference. */
final class Face {
    /** An object is promised no more calls than these. */
    static final int MOST_CALLS = 512;

    private static final Set<String> NO_QUESTIONS = Set.of("point", "take", "fit", "line", "even", "shorts", "pieces",
        "drop", "sheet", "cell", "points", "act", "forge");

    private Face() {
    }

    static boolean isQuestion(String name) {
        return !NO_QUESTIONS.contains(name);
    }

    static long answer(Object of, String name, int... numbers) {
        Class<?>[] types = new Class<?>[numbers.length];
        Arrays.fill(types, int.class);
        try {
            Method method = of.getClass().getMethod(name, types);
            Object[] arguments = Arrays.stream(numbers).boxed().toArray();
            return ((Number) method.invoke(of, arguments)).longValue();
        } catch (ReflectiveOperationException e) {
            throw new IllegalStateException(text(name, numbers), e);
        }
    }

    static String text(String name, int... numbers) {
        String inside = Arrays.stream(numbers).mapToObj(String::valueOf).collect(Collectors.joining(", "));
        return name + "(" + inside + ")";
    }
}
