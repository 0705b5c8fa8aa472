import java.lang.reflect.Constructor;
import java.lang.reflect.Field;
import java.lang.reflect.Method;
import java.lang.reflect.Modifier;
import java.nio.file.Files;
import java.nio.file.Path;
import java.util.Arrays;
import java.util.Set;
import java.util.TreeSet;
import java.util.regex.Matcher;
import java.util.regex.Pattern;

/** The public face, and the words that LANGUAGE.md leaves out. */
public final class FaceTest {
    private static final Set<String> METHODS = new TreeSet<>(Set.of(
        "int points(int)", "int place(int, int)", "int servers(int)", "int start(int, int)",
        "int factor(int)", "int asked()", "int cost(int)", "int stands(int, int, int)",
        "int goes(int, int)", "int best()", "int way(int)", "int share(int)",
        "int work(int, int, int, int)", "int trusts(int)", "int worst(int, int)",
        "int worstShare(int, int)", "int longing(int)", "int pays()", "int sheet(int, int, int)",
        "int lose(int)", "int put(int, int, int, int)", "int get(int, int, int)",
        "int copy(int, int, int, int, int)", "int hint()", "int count(int)", "long digest()"));
    private static final Check check = new Check();

    public static void main(String[] args) throws Exception {
        constants();
        members();
        words();
        check.end();
    }

    private static void constants() {
        check.due("NONE", ServerLine.NONE, -1);
        check.due("BAD", ServerLine.BAD, -2);
        check.due("NOT", ServerLine.NOT, -3);
    }

    private static void members() {
        Set<String> seen = new TreeSet<>();
        Set<String> names = new TreeSet<>();
        for (Method method : ServerLine.class.getDeclaredMethods()) {
            if (!Modifier.isPrivate(method.getModifiers())) {
                String takes = Arrays.toString(method.getParameterTypes()).replaceAll("[\\[\\]]", "");
                seen.add(method.getReturnType() + " " + method.getName() + "(" + takes + ")");
                names.add(method.getName());
            }
        }
        check.due("methods " + seen + " alike", seen.equals(METHODS) ? 1 : 0, 1);
        for (Class<?> inside : ServerLine.class.getDeclaredClasses()) {
            check.due(inside + " is static", Modifier.isStatic(inside.getModifiers()) ? 1 : 0, 1);
            noNameTwice(inside, names);
        }
        noNameTwice(ServerLine.class, names);
        Set<String> fields = new TreeSet<>();
        for (Field field : ServerLine.class.getDeclaredFields()) {
            if (!Modifier.isPrivate(field.getModifiers())) fields.add(field.getName());
        }
        check.due("fields " + fields, fields.equals(Set.of("NONE", "BAD", "NOT")) ? 1 : 0, 1);
        Constructor<?>[] made = ServerLine.class.getDeclaredConstructors();
        check.due("constructors", made.length, 1);
        check.due("final", Modifier.isFinal(ServerLine.class.getModifiers()) ? 1 : 0, 1);
    }

    private static void noNameTwice(Class<?> inside, Set<String> names) {
        for (Method method : inside.getDeclaredMethods()) {
            boolean twice = Modifier.isPrivate(method.getModifiers()) && names.contains(method.getName());
            check.due(method + " bears a public name", twice ? 1 : 0, 0);
        }
    }

    private static void words() throws Exception {
        String source = Files.readString(Path.of("src/main/java/ServerLine.java"));
        String code = source.replaceAll("(?s)/\\*.*?\\*/", "").replaceAll("//[^\n]*", "");
        Pattern left = Pattern.compile(
            "\\b(throw|throws|try|catch|synchronized|assert|import|package|native|volatile|while)\\b"
            + "|->|::|@|\\b\\w+Exact\\b");
        Matcher found = left.matcher(code);
        check.due("a word that is left out", found.find() ? found.start() : -1, -1);
    }
}
