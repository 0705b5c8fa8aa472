import com.sun.management.ThreadMXBean;
import java.lang.management.ManagementFactory;
import java.lang.reflect.Constructor;
import java.lang.reflect.Field;
import java.lang.reflect.Method;
import java.lang.reflect.Modifier;
import java.nio.file.Files;
import java.nio.file.Path;
import java.util.Arrays;
import java.util.Set;
import java.util.TreeSet;
import java.util.regex.Matcher;
import java.util.regex.Pattern;

/** The public face, and what can be told by machine of LANGUAGE.md. */
public final class FaceTest {
    private static final Set<String> METHODS = new TreeSet<>(Set.of(
        "int points(int)", "int place(int, int)", "int servers(int)", "int start(int, int)",
        "int factor(int)", "int asked()", "int cost(int)", "int stands(int, int, int)",
        "int goes(int, int)", "int best()", "int way(int)", "int share(int)",
        "int work(int, int, int, int)", "int trusts(int)", "int worst(int, int)",
        "int worstShare(int, int)", "int longing(int)", "int pays()", "int sheet(int, int, int)",
        "int lose(int)", "int put(int, int, int, int)", "int get(int, int, int)",
        "int copy(int, int, int, int, int)", "int hint()", "int count(int)", "long digest()"));
    private static final Check check = new Check();

    public static void main(String[] args) throws Exception {
        constants();
        members();
        limits();
        words();
        room();
        check.end();
    }

    private static void constants() {
        check.due("NONE", ServerLine.NONE, -1);
        check.due("BAD", ServerLine.BAD, -2);
        check.due("NOT", ServerLine.NOT, -3);
    }

    private static void members() {
        Set<String> seen = new TreeSet<>();
        Set<String> names = new TreeSet<>();
        for (Method method : ServerLine.class.getDeclaredMethods()) {
            if (!Modifier.isPrivate(method.getModifiers())) {
                String takes = Arrays.toString(method.getParameterTypes()).replaceAll("[\\[\\]]", "");
                seen.add(method.getReturnType() + " " + method.getName() + "(" + takes + ")");
                names.add(method.getName());
            }
        }
        check.due("methods " + seen + " alike", seen.equals(METHODS) ? 1 : 0, 1);
        for (Class<?> inside : ServerLine.class.getDeclaredClasses()) {
            check.due(inside + " is static", Modifier.isStatic(inside.getModifiers()) ? 1 : 0, 1);
            noNameTwice(inside, names);
        }
        noNameTwice(ServerLine.class, names);
        Set<String> fields = new TreeSet<>();
        for (Field field : ServerLine.class.getDeclaredFields()) {
            if (!Modifier.isPrivate(field.getModifiers())) fields.add(field.getName());
        }
        check.due("fields " + fields, fields.equals(Set.of("NONE", "BAD", "NOT")) ? 1 : 0, 1);
        Constructor<?>[] made = ServerLine.class.getDeclaredConstructors();
        check.due("constructors", made.length, 1);
        check.due("final", Modifier.isFinal(ServerLine.class.getModifiers()) ? 1 : 0, 1);
    }

    private static void noNameTwice(Class<?> inside, Set<String> names) {
        for (Method method : inside.getDeclaredMethods()) {
            boolean twice = Modifier.isPrivate(method.getModifiers()) && names.contains(method.getName());
            check.due(method + " bears a public name", twice ? 1 : 0, 0);
        }
    }

    /** Rules 5 and 11. */
    private static void limits() {
        Class<?>[] inside = ServerLine.class.getDeclaredClasses();
        Class<?>[] all = Arrays.copyOf(inside, inside.length + 1);
        all[inside.length] = ServerLine.class;
        check.due("classes are at most 12", Math.min(all.length, 12), all.length);
        for (Class<?> one : all) {
            int deeper = one == ServerLine.class ? 0 : one.getDeclaredClasses().length;
            check.due(one + " has no class inside", deeper, 0);
            int fields = 0;
            for (Field field : one.getDeclaredFields()) {
                int how = field.getModifiers();
                boolean fixed = !Modifier.isStatic(how) || Modifier.isFinal(how);
                check.due(field + " is final, if static", fixed ? 1 : 0, 1);
                fields += Modifier.isStatic(how) ? 0 : 1;
            }
            check.due(one + " has at most 20 fields", Math.min(fields, 20), fields);
            for (Method method : one.getDeclaredMethods()) {
                int takes = method.getParameterCount();
                check.due(method + " takes at most 7", Math.min(takes, 7), takes);
            }
        }
    }

    private static void words() throws Exception {
        String source = Files.readString(Path.of("src/main/java/ServerLine.java"));
        String code = source.replaceAll("(?s)/\\*.*?\\*/", "").replaceAll("//[^\n]*", "");
        Pattern left = Pattern.compile(
            "\\b(throw|throws|try|catch|synchronized|assert|import|package|native|volatile|while)\\b"
            + "|->|::|@|\\b\\w+Exact\\b");
        Matcher found = left.matcher(code);
        check.due("a word that is left out", found.find() ? found.start() : -1, -1);
    }

    /** No call makes an object, so a run needs no more room than its new objects. */
    private static void room() {
        ThreadMXBean threads = (ThreadMXBean) ManagementFactory.getThreadMXBean();
        ServerLine x = Check.line(Check.row(0, 10, 16, 40, 41, 1000), 0, 2, 4);
        everyCall(x);
        long before = threads.getCurrentThreadAllocatedBytes();
        long nothing = threads.getCurrentThreadAllocatedBytes() - before;
        before = threads.getCurrentThreadAllocatedBytes();
        everyCall(x);
        long made = threads.getCurrentThreadAllocatedBytes() - before;
        check.due("bytes that calls make", made - nothing, 0);
    }

    private static void everyCall(ServerLine x) {
        x.points(6);
        x.place(5, 999);
        x.servers(3);
        x.start(2, 5);
        x.factor(3);
        for (int s = 0; s < 2; s++) {
            x.sheet(s, s, 40);
            for (int i = 0; i < 40; i++) x.put(s, s, i, i * i % 7);
        }
        x.asked();
        for (int rule = 0; rule < 5; rule++) {
            x.cost(rule);
            x.share(rule);
            x.stands(rule, 2, 40);
            x.goes(rule, 39);
            x.worst(rule, 3);
            x.worstShare(rule, 3);
        }
        x.best();
        x.way(39);
        x.work(5, 4, 3, 40);
        x.trusts(40);
        x.longing(40);
        x.pays();
        x.get(0, 0, 0);
        x.get(0, 2, 0);
        x.copy(0, 0, 0, 1, 39);
        x.hint();
        x.count(3);
        x.digest();
        x.lose(1);
        x.lose(1);
    }
}
