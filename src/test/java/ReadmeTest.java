import java.io.IOException;
import java.lang.reflect.Method;
import java.lang.reflect.Modifier;
import java.nio.file.Files;
import java.nio.file.Path;
import java.util.List;
import java.util.regex.Matcher;
import java.util.regex.Pattern;
import java.util.stream.Collectors;
import java.util.stream.Stream;

/** README.md says what is so: its example answers as told, and it names every call and every test. */
public final class ReadmeTest {
    private static final Due due = new Due();
    private static final Pattern CALL = Pattern.compile("^x\\.(\\w+)\\(([^)]*)\\);\\s+// (-?\\d+):");

    public static void main(String[] args) throws IOException, ReflectiveOperationException {
        String page = Files.readString(Path.of("README.md"));
        exampleAnswersAsTold(page);
        everyCallIsNamed(page);
        everyTestIsNamed(page);
        due.end();
    }

    private static void exampleAnswersAsTold(String page) throws ReflectiveOperationException {
        due.begin("the example");
        SeenLand x = new SeenLand();
        int asked = 0;
        for (String line : page.lines().collect(Collectors.toList())) {
            Matcher call = CALL.matcher(line);
            if (call.find()) {
                asked++;
                due.is(line, answer(x, call.group(1), call.group(2)), Integer.parseInt(call.group(3)));
            } else {
                due.holds("can't be read: " + line, !line.startsWith("x."));
            }
        }
        due.holds("there are calls in it", asked > 0);
    }

    private static int answer(SeenLand x, String name, String list) throws ReflectiveOperationException {
        String[] words = list.isEmpty() ? new String[0] : list.split(", ");
        Object[] arguments = new Object[words.length];
        Class<?>[] types = new Class<?>[words.length];
        for (int i = 0; i < words.length; i++) {
            arguments[i] = sum(words[i]);
            types[i] = int.class;
        }
        return (int) SeenLand.class.getMethod(name, types).invoke(x, arguments);
    }

    private static int sum(String words) {
        int sum = 0;
        for (String word : words.split(" \\+ ")) {
            sum += Integer.decode(word);
        }
        return sum;
    }

    private static void everyCallIsNamed(String page) {
        due.begin("calls");
        String rows = rowsBehind(page, "| calls |");
        for (Method m : SeenLand.class.getDeclaredMethods()) {
            boolean isNamed = Pattern.compile("\\b" + m.getName() + "\\b").matcher(rows).find();
            due.holds(m.getName() + " isn't named", Modifier.isPrivate(m.getModifiers()) || isNamed);
        }
    }

    private static void everyTestIsNamed(String page) throws IOException {
        due.begin("tests");
        String rows = rowsBehind(page, "| test |");
        try (Stream<Path> files = Files.list(Path.of("src/test/java"))) {
            List<String> names = files.map(f -> f.getFileName().toString().replace(".java", ""))
                .filter(n -> n.endsWith("Test")).collect(Collectors.toList());
            for (String name : names) {
                due.holds(name + " isn't named", Pattern.compile("\\b" + name + "\\b").matcher(rows).find());
            }
            Matcher told = Pattern.compile("\\w+Test\\b").matcher(rows);
            while (told.find()) {
                due.holds("there is no " + told.group(), names.contains(told.group()));
            }
        }
    }

    /** The first column of a table: what stands in others is no list of names. */
    private static String rowsBehind(String page, String head) {
        int from = page.indexOf(head);
        int to = page.indexOf("\n\n", Math.max(0, from));
        due.holds("a table " + head, from >= 0 && to >= 0);
        String table = page.substring(Math.max(0, from), to < 0 ? page.length() : to);
        return table.lines().map(row -> row.split("\\|")[1]).collect(Collectors.joining("\n"));
    }
}
