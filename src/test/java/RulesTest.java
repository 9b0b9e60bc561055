import java.io.IOException;
import java.lang.reflect.Constructor;
import java.lang.reflect.Field;
import java.lang.reflect.Method;
import java.lang.reflect.Modifier;
import java.nio.file.Files;
import java.nio.file.Path;
import java.util.ArrayList;
import java.util.List;
import java.util.Set;
import java.util.TreeSet;
import java.util.regex.Matcher;
import java.util.regex.Pattern;

/** The face of the class, and those rules of LANGUAGE.md that can be seen in the source. */
public final class RulesTest {
    private static final Due due = new Due();
    private static final String[] FACE = {"cell 3", "set 2", "cellOf 2", "house 2", "houseOf 2", "floor 2", "windows 2",
        "law 2", "dig 3", "drain 1", "sight 1", "sees 2", "seenBy 1", "neighbours 1", "hidden 2", "tax 1", "all 0",
        "cheapest 1", "widest 1", "wall 2", "rateFor 1", "shade 3", "gains 3", "plant 1", "two 1", "restless 0",
        "walk 0", "blind 0", "heights 3", "height 4", "which 2", "years 1", "ahead 2", "lost 2", "when 1", "quake 1",
        "seed 1", "feed 2", "wipe 0", "text 0", "hold 2", "as 2", "sheet 3", "write 3", "copy 5", "load 2", "judge 2",
        "image 0", "undo 0", "tear 0", "count 1", "status 1"};

    public static void main(String[] args) throws IOException {
        face();
        String source = Files.readString(Path.of("src/main/java/SeenLand.java"));
        words(source);
        measures(source);
        rowsAreMadeOnce(source);
        constructorsHandOutNothing(source);
        due.end();
    }

    private static void face() {
        due.begin("rule 1");
        Set<String> names = new TreeSet<>();
        Set<String> want = new TreeSet<>(Set.of(FACE));
        Set<String> hiddenNames = new TreeSet<>();
        for (Method m : SeenLand.class.getDeclaredMethods()) {
            if (Modifier.isPrivate(m.getModifiers())) {
                hiddenNames.add(m.getName());
                continue;
            }
            names.add(m.getName() + " " + m.getParameterCount());
            due.holds(m + " is public, answers an int", m.getReturnType() == int.class
                && m.getModifiers() == Modifier.PUBLIC);
            for (Class<?> type : m.getParameterTypes()) {
                due.holds(m + " takes ints", type == int.class);
            }
        }
        due.holds("the methods are " + want + ", not " + names, want.equals(names));
        for (Class<?> inner : SeenLand.class.getDeclaredClasses()) {
            for (Method m : inner.getDeclaredMethods()) {
                hiddenNames.add(m.getName());
            }
            due.holds(inner + " is static", Modifier.isStatic(inner.getModifiers()));
        }
        for (String face : FACE) {
            String name = face.split(" ")[0];
            due.holds(name + " is no hidden method's name, too", !hiddenNames.contains(name));
        }
        Constructor<?>[] constructors = SeenLand.class.getDeclaredConstructors();
        due.holds("one public constructor", constructors.length == 1
            && constructors[0].getModifiers() == Modifier.PUBLIC && constructors[0].getParameterCount() == 0);
        due.holds("public and final", SeenLand.class.getModifiers() == (Modifier.PUBLIC | Modifier.FINAL));
        for (Field f : SeenLand.class.getDeclaredFields()) {
            due.holds(f + " is private", Modifier.isPrivate(f.getModifiers()));
        }
    }

    private static String withoutComments(String source) {
        return source.replaceAll("(?s)/\\*.*?\\*/", "").replaceAll("//[^\n]*", "");
    }

    private static void words(String source) {
        due.begin("rules 2 to 6");
        String code = withoutComments(source);
        String[] never = {"\\bthrow\\b", "\\btry\\b", "\\bcatch\\b", "\\bsynchronized\\b", "\\bassert\\b", "->", "::",
            "\\bimport\\b", "\\bpackage\\b", "\\bdouble\\b", "\\bfloat\\b", "Exact\\b", "\\bhashCode\\b", "\\btoString\\b",
            "\\bstatic\\s*\\{", "while \\(true\\)", "for \\(;;", "\\bprotected\\b", "\\bRandom\\b", "\\bThread\\b"};
        for (String pattern : never) {
            due.holds("the source has " + pattern, !Pattern.compile(pattern).matcher(code).find());
        }
        Matcher system = Pattern.compile("System\\.(\\w+)").matcher(code);
        while (system.find()) {
            due.holds("System." + system.group(1), system.group(1).equals("arraycopy"));
        }
        Matcher statics = Pattern.compile("static (?!final )[^\n]*;").matcher(code);
        due.holds("static fields are final", !statics.find());
        for (int i = 0; i < source.length(); i++) {
            due.holds("a sign above 127 at " + i, source.charAt(i) < 128);
        }
    }

    private static void measures(String source) {
        due.begin("rule 11");
        List<Class<?>> classes = new ArrayList<>(List.of(SeenLand.class.getDeclaredClasses()));
        classes.add(SeenLand.class);
        due.holds("at most twelve classes", classes.size() <= 12);
        for (Class<?> each : classes) {
            int fields = 0;
            for (Field f : each.getDeclaredFields()) {
                fields += Modifier.isStatic(f.getModifiers()) ? 0 : 1;
            }
            due.holds(each + " has " + fields + " fields", fields <= 20);
            for (Method m : each.getDeclaredMethods()) {
                due.holds(m + " takes at most seven", m.getParameterCount() <= 7);
            }
        }
        methodsAreShort(source);
    }

    private static void methodsAreShort(String source) {
        String head = "^( {4}| {8})(?:public|private) (?!.*\\bclass\\b)([^;=\n]*\\)) \\{\n";
        Matcher methods = Pattern.compile("(?m)" + head + "(?s:.*?)\\1\\}\n").matcher(source);
        int found = 0;
        while (methods.find()) {
            found++;
            long lines = methods.group().lines().count();
            due.holds(methods.group(2) + " has " + lines + " lines", lines <= 60);
        }
        due.holds("more methods than the face has, not " + found, found > FACE.length);
    }

    /** Calls make nothing, so that a run of any length stays small: rows are made with the object alone. */
    private static void rowsAreMadeOnce(String source) {
        due.begin("rule 12");
        for (String line : withoutComments(source).split("\n")) {
            due.holds("made outside a field: " + line.trim(),
                !line.contains("new ") || line.trim().startsWith("private final "));
        }
    }

    /** What is made gets no argument, so no part of an object that isn't whole yet is in other hands. */
    private static void constructorsHandOutNothing(String source) {
        due.begin("rule 12, its last sentence");
        Matcher made = Pattern.compile("new [A-Z]\\w*\\(([^)]*)\\)").matcher(withoutComments(source));
        while (made.find()) {
            due.holds("handed out: " + made.group(), made.group(1).isBlank());
        }
        due.holds("this is handed out", !Pattern.compile("[(,] *this *[,)]").matcher(withoutComments(source)).find());
    }
}
