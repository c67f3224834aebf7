import java.lang.reflect.Method;
import java.lang.reflect.Modifier;
import java.nio.file.Files;
import java.nio.file.Path;
import java.util.HashMap;
import java.util.Map;
import java.util.Set;
import java.util.TreeSet;
import java.util.regex.Matcher;
import java.util.regex.Pattern;

/** README.md says how to use the class: each line of Java in it answers what stands behind it. */
public final class ReadmeTest {
    private static final Check CHECK = new Check("readme");
    private static final Path README = Path.of("README.md");
    private static final String NEW_OBJECT = "LevelFits fits = new LevelFits();";
    private static final Pattern CALL =
        Pattern.compile("(?:int (\\w+) = )?fits\\.(\\w+)\\(([^)]*)\\); +// (-?\\d+)(?:: .*)?");

    private final Map<String, Integer> names = new HashMap<>();
    private final Set<String> used = new TreeSet<>();
    private LevelFits fits = null;
    private int calls = 0;

    public static void main(String[] args) throws Exception {
        ReadmeTest test = new ReadmeTest();
        boolean inside = false;
        for (String line : Files.readAllLines(README)) {
            if (line.startsWith("```")) {
                inside = line.equals("```java");
            } else if (inside && !line.isBlank()) {
                test.run(line);
            }
        }
        test.everyMethodIsUsed();
        CHECK.end();
    }

    private void run(String line) {
        CHECK.begin(line);
        if (line.equals(NEW_OBJECT)) {
            fits = new LevelFits();
            calls = 0;
            return;
        }
        Matcher call = CALL.matcher(line);
        boolean reads = call.matches();
        CHECK.holds("a call with its answer, on an object that has been made", reads && fits != null);
        if (!reads || fits == null) {
            return;
        }
        calls++;
        CHECK.holds("no more calls than are promised", calls <= Face.MOST_CALLS);
        long answer = Face.answer(fits, call.group(2), numbers(call.group(3)));
        CHECK.due("the call", answer, Long.parseLong(call.group(4)));
        used.add(call.group(2));
        if (call.group(1) != null) {
            names.put(call.group(1), (int) answer);
        }
    }

    private int[] numbers(String listed) {
        if (listed.isEmpty()) {
            return new int[0];
        }
        String[] parts = listed.split(", ");
        int[] numbers = new int[parts.length];
        for (int i = 0; i < parts.length; i++) {
            boolean isNumber = parts[i].matches("-?\\d{1,9}");
            CHECK.holds(parts[i] + " is a number or the name of an answer", isNumber || names.containsKey(parts[i]));
            numbers[i] = isNumber ? Integer.parseInt(parts[i]) : names.getOrDefault(parts[i], 0);
        }
        return numbers;
    }

    private void everyMethodIsUsed() {
        CHECK.begin("all methods");
        for (Method m : LevelFits.class.getDeclaredMethods()) {
            if (Modifier.isPublic(m.getModifiers())) {
                CHECK.holds("README.md uses " + m.getName(), used.contains(m.getName()));
            }
        }
    }
}
