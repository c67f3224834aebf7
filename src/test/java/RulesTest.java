import java.lang.reflect.Field;
import java.lang.reflect.Method;
import java.lang.reflect.Modifier;
import java.nio.file.Files;
import java.nio.file.Path;
import java.util.ArrayList;
import java.util.Arrays;
import java.util.List;
import java.util.Set;
import java.util.TreeSet;
import java.util.regex.Matcher;
import java.util.regex.Pattern;

/** The rules of LANGUAGE.md that can be read off the source and the compiled classes. */
public final class RulesTest {
    private static final Check CHECK = new Check("rules");
    private static final Path SOURCE = Path.of("src/main/java/LevelFits.java");

    /** The document's methods: name and how many ints each takes; those of LONGS answer a long. */
    private static final String FACE = "point 4,take 2,fit 5,line 2,even 1,shorts 3,pieces 4,drop 0,pointTold 3,"
        + "count 1,told 2,number 4,value 3,miss 3,level 2,far 2,begins 2,turns 1,low 3,swap 2,swaps 2,against 2,"
        + "same 2,act 3,trace 1,sheet 3,cell 3,points 4,forge 3,status 0";
    private static final Set<String> LONGS = Set.of("pointTold", "number", "value", "miss", "level", "low");
    /** The rules' library, without what the program has no use for. */
    private static final Set<String> LIBRARY = Set.of("Math.abs", "Math.max", "Math.min", "Math.floorMod",
        "Math.floorDiv", "Integer.bitCount", "Long.compare");

    public static void main(String[] args) throws Exception {
        face();
        members();
        classes();
        String code = withoutComments(Files.readString(SOURCE));
        words(code);
        library(code);
        methods(code);
        CHECK.end();
    }

    // Rule 1
    private static void face() {
        Set<String> due = new TreeSet<>(Arrays.asList(FACE.split(",")));
        Set<String> found = new TreeSet<>();
        for (Method m : LevelFits.class.getDeclaredMethods()) {
            if (Modifier.isPublic(m.getModifiers())) {
                found.add(m.getName() + " " + m.getParameterCount());
                CHECK.holds(m + " answers what the face says",
                    m.getReturnType() == (LONGS.contains(m.getName()) ? long.class : int.class));
                CHECK.holds(m + " takes ints", Arrays.stream(m.getParameterTypes()).allMatch(t -> t == int.class));
            } else {
                CHECK.holds(m + " is private", Modifier.isPrivate(m.getModifiers()));
            }
        }
        CHECK.holds("the face has " + due + ", found is " + found, due.equals(found));
        int modifiers = LevelFits.class.getModifiers();
        CHECK.holds("public final", Modifier.isPublic(modifiers) && Modifier.isFinal(modifiers));
        CHECK.due("constructors", LevelFits.class.getDeclaredConstructors().length, 1);
        CHECK.due("public constructors", LevelFits.class.getConstructors().length, 1);
        CHECK.holds("no package", LevelFits.class.getPackageName().isEmpty());
    }

    private static List<Class<?>> allClasses() {
        List<Class<?>> all = new ArrayList<>();
        all.add(LevelFits.class);
        all.addAll(Arrays.asList(LevelFits.class.getDeclaredClasses()));
        return all;
    }

    // Rules 1, 5 and 11
    private static void members() {
        Set<String> publicNames = new TreeSet<>();
        for (Method m : LevelFits.class.getMethods()) {
            publicNames.add(m.getName());
        }
        for (Class<?> c : allClasses()) {
            int own = 0;
            for (Field f : c.getDeclaredFields()) {
                boolean isStatic = Modifier.isStatic(f.getModifiers());
                own += isStatic ? 0 : 1;
                CHECK.holds(f + ": static fields are final", !isStatic || Modifier.isFinal(f.getModifiers()));
                boolean told = f.getName().equals("NONE") || f.getName().equals("NO");
                CHECK.holds(f + " is private but for the face", told || Modifier.isPrivate(f.getModifiers()));
            }
            CHECK.holds(c + ": fields", own <= 20);
            for (Method m : c.getDeclaredMethods()) {
                boolean isFace = c == LevelFits.class && Modifier.isPublic(m.getModifiers());
                CHECK.holds(m + ": another name than those of the face", isFace || !publicNames.contains(m.getName()));
                CHECK.holds(m + ": parameters", m.getParameterCount() <= 7);
            }
        }
    }

    // Rules 2 and 11
    private static void classes() {
        CHECK.holds("classes", allClasses().size() <= 12);
        for (Class<?> c : LevelFits.class.getDeclaredClasses()) {
            int modifiers = c.getModifiers();
            CHECK.holds(c + " is static", Modifier.isStatic(modifiers));
            CHECK.holds(c + " is not public", !Modifier.isPublic(modifiers) && !Modifier.isProtected(modifiers));
            CHECK.due(c + ": classes inside", c.getDeclaredClasses().length, 0);
        }
    }

    private static String withoutComments(String source) {
        return source.replaceAll("(?s)/\\*.*?\\*/", "").replaceAll("//[^\n]*", "");
    }

    // Rules 2, 3, 5, 6 and 13
    private static void words(String code) {
        String[] banned = {
            "\\bthrow\\b", "\\bthrows\\b", "\\btry\\b", "\\bcatch\\b", "\\bfinally\\b", "\\bsynchronized\\b",
            "\\bassert\\b", "\\bpackage\\b", "\\bimport\\b", "\\bnative\\b", "\\bvolatile\\b", "->", "::",
            "\\bstatic\\s*\\{", "\\bvar\\b", "\"", "\\bObject\\b", "\\.equals\\b", "\\.hashCode\\b", "\\bSystem\\b",
            "\\bThread\\b", "\\bdouble\\b", "\\bfloat\\b", "Exact\\b",
            "\\bfor\\s*\\(\\s*;\\s*;", "\\bwhile\\s*\\(\\s*true"
        };
        for (String word : banned) {
            CHECK.holds("no " + word, !Pattern.compile(word).matcher(code).find());
        }
        CHECK.holds("ASCII alone", code.chars().allMatch(c -> c < 128));
    }

    // Rule 4
    private static void library(String code) {
        Matcher call = Pattern.compile("\\b(Math|Integer|Long|Arrays|String|List)\\.\\w+").matcher(code);
        while (call.find()) {
            CHECK.holds(call.group() + " is in the rules' library", LIBRARY.contains(call.group()));
        }
    }

    // Rule 11: methods stay short
    private static void methods(String code) {
        int length = 0;
        boolean inside = false;
        String name = "";
        for (String line : code.split("\n")) {
            String indent = line.replaceAll("\\S.*", "");
            boolean starts = line.matches("\\s+(public|private|static|[A-Z]\\w*|int|long|boolean|void)\\b.*\\) \\{");
            if (!inside && starts && (indent.length() == 4 || indent.length() == 8)) {
                inside = true;
                name = line.trim();
                length = 0;
            }
            length++;
            if (inside && line.equals(indent + "}") && indent.length() <= 8 && closes(line, name, code)) {
                inside = false;
                CHECK.holds(name + ": " + length + " lines", length <= 60);
            }
        }
    }

    /** A method's closing brace stands as far in as its first line. */
    private static boolean closes(String line, String name, String code) {
        int at = code.indexOf(name);
        int indent = at - code.lastIndexOf('\n', at) - 1;
        return line.length() == indent + 1;
    }
}
