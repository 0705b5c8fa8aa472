import java.io.IOException;
import java.lang.reflect.Method;
import java.lang.reflect.Modifier;
import java.nio.file.Files;
import java.nio.file.Path;
import java.util.Map;
import java.util.Set;
import java.util.TreeMap;
import java.util.TreeSet;
import java.util.regex.Matcher;
import java.util.regex.Pattern;
import java.util.stream.Collectors;
import java.util.stream.Stream;

/** README.md: its example answers as it says, and it names every call and every test. */
public final class ReadmeTest {
    private static final Pattern MADE = Pattern.compile("x\\.(\\w+)\\(([-\\d, ]*)\\);\\s*(?://(.*))?");
    private static final Pattern TOLD = Pattern.compile("(-?\\d+)(:.*)?");
    private static final Pattern IN_TABLE = Pattern.compile("\\| `(\\w+)(\\(([\\w, ]*)\\))?` \\|.*");
    private static final Check check = new Check();

    public static void main(String[] args) throws Exception {
        String readme = Files.readString(Path.of("README.md"));
        example(readme);
        calls(readme);
        tests(readme);
        check.end();
    }

    private static void example(String readme) throws Exception {
        ServerLine x = new ServerLine();
        Map<String, Method> face = face();
        int told = 0;
        for (String line : block(readme, "java").split("\n")) {
            Matcher made = MADE.matcher(line);
            if (!made.matches()) {
                boolean other = line.isBlank() || line.equals("ServerLine x = new ServerLine();");
                check.due("'" + line + "' is understood", other ? 1 : 0, 1);
                continue;
            }
            Method call = face.get(made.group(1));
            check.due(line + " is a call", call == null ? 0 : 1, 1);
            long got = ((Number) call.invoke(x, numbers(made.group(2)))).longValue();
            Matcher answer = TOLD.matcher(made.group(3) == null ? "" : made.group(3).strip());
            if (answer.matches()) {
                check.due("README: " + line, got, Long.parseLong(answer.group(1)));
                told++;
            } else {
                check.due(line + " says its answer or nothing", made.group(3) == null ? 1 : 0, 1);
            }
        }
        check.due("the example tells answers", told > 10 ? 1 : 0, 1);
    }

    private static Object[] numbers(String text) {
        return Stream.of(text.split(",")).map(String::strip).filter(one -> !one.isEmpty())
            .map(Integer::valueOf).toArray();
    }

    private static String block(String readme, String kind) {
        int from = readme.indexOf("```" + kind + "\n") + kind.length() + 4;
        return readme.substring(from, readme.indexOf("```", from));
    }

    private static Map<String, Method> face() {
        Map<String, Method> face = new TreeMap<>();
        for (Method method : ServerLine.class.getDeclaredMethods()) {
            if (Modifier.isPublic(method.getModifiers())) face.put(method.getName(), method);
        }
        return face;
    }

    private static void calls(String readme) {
        Set<String> due = new TreeSet<>();
        for (Method method : face().values()) {
            due.add(method.getName() + " takes " + method.getParameterCount());
        }
        Set<String> named = new TreeSet<>();
        for (Matcher row : tableRows(readme)) {
            if (row.group(2) != null) {
                String takes = row.group(3);
                named.add(row.group(1) + " takes " + (takes.isEmpty() ? 0 : takes.split(",").length));
            }
        }
        check.due("calls " + named + ", due are " + due, named.equals(due) ? 1 : 0, 1);
    }

    private static void tests(String readme) throws IOException {
        Set<String> due;
        try (Stream<Path> files = Files.list(Path.of("src/test/java"))) {
            due = files.map(file -> file.getFileName().toString()).filter(name -> name.endsWith("Test.java"))
                .map(name -> name.replace(".java", "")).collect(Collectors.toCollection(TreeSet::new));
        }
        Set<String> named = new TreeSet<>();
        for (Matcher row : tableRows(readme)) {
            if (row.group(2) == null) named.add(row.group(1));
        }
        check.due("tests " + named + ", due are " + due, named.equals(due) ? 1 : 0, 1);
    }

    private static Iterable<Matcher> tableRows(String readme) {
        return readme.lines().map(IN_TABLE::matcher).filter(Matcher::matches).collect(Collectors.toList());
    }
}
