import java.lang.reflect.InvocationTargetException;
import java.lang.reflect.Method;
import java.nio.file.Files;
import java.nio.file.Path;
import java.util.ArrayList;
import java.util.Arrays;
import java.util.Comparator;
import java.util.List;
import java.util.TreeSet;

/**
 * Runs the edge tests of one class: static methods that quote the document by Says, named after
 * their promise (promise07..). Refusals are tried on a small object that holds something of all that
 * a call could change.
 */
abstract class Edges {
    static final int LEAST = Integer.MIN_VALUE;
    static final int MOST = Integer.MAX_VALUE;
    static final int NONE = -1, BAD = -2, NOT = -3;
    static final int NULL = 1, INDEX = 2, CAST = 3, STORE = 4, SIZE = 5;

    private static final Path DOCUMENT = Path.of("../shared/DOC.md");

    interface Call {
        long on(ServerLine x);
    }

    // ---- running

    static void run(Class<?> tests, int first, int last) throws Exception {
        String document = Files.readString(DOCUMENT).replaceAll("\\s+", " ");
        TreeSet<Integer> promises = new TreeSet<>();
        int many = 0;
        int failed = 0;
        for (Method test : testsOf(tests)) {
            int promise = Integer.parseInt(test.getName().replaceAll("^promise(\\d\\d).*", "$1"));
            promises.add(promise);
            Check check = new Check(test.getName() + ": ");
            for (String words : test.getAnnotation(Says.class).value()) {
                check.due("the document says it", isSaid(document, promise, words) ? 1 : 0, 1);
            }
            int quotes = check.askedCount();
            invoke(test, check);
            check.due("it asks something", check.askedCount() > quotes ? 1 : 0, 1);
            many++;
            failed += check.isClean() ? 0 : 1;
        }
        for (int promise = first; promise <= last; promise++) {
            if (!promises.contains(promise)) {
                System.out.println("promise " + promise + " has no edge test");
                failed++;
            }
        }
        System.out.println(many + " edge tests, " + failed + " failed");
        System.exit(failed == 0 ? 0 : 1);
    }

    private static List<Method> testsOf(Class<?> tests) {
        List<Method> found = new ArrayList<>();
        for (Method method : tests.getDeclaredMethods()) {
            if (method.isAnnotationPresent(Says.class)) {
                found.add(method);
            } else if (method.getName().startsWith("promise")) {
                throw new IllegalStateException(method + " quotes nothing");
            }
        }
        found.sort(Comparator.comparing(Method::getName));
        return found;
    }

    private static void invoke(Method test, Check check) throws Exception {
        try {
            test.setAccessible(true);
            test.invoke(null, check);
        } catch (InvocationTargetException e) {
            check.due("ends without " + e.getCause(), 0, 1);
        }
    }

    /** A promise may be quoted from its own section, and from what all promises rest on. */
    private static boolean isSaid(String document, int promise, String words) {
        return section(document, "## Promise " + promise + ":").contains(words)
            || section(document, "## Terms").contains(words)
            || section(document, "## What it is").contains(words);
    }

    private static String section(String document, String heading) {
        int from = document.indexOf(heading);
        if (from < 0) {
            return "";
        }
        int to = document.indexOf(" ## ", from);
        return to < 0 ? document.substring(from) : document.substring(from, to);
    }

    // ---- refusals

    /** Refused with this answer and this finding (0: none); nothing else changes. */
    static void refused(Check check, String call, Call made, long answer, int finding) {
        refusedOn(check, true, call, made, answer, finding);
    }

    /** The same where SHEET 0 is LOST. */
    static void refusedWithoutRow(Check check, String call, Call made, long answer, int finding) {
        refusedOn(check, false, call, made, answer, finding);
    }

    static void bad(Check check, String call, Call made) {
        refused(check, call, made, BAD, 0);
        refusedWithoutRow(check, call + " without a row", made, BAD, 0);
    }

    static void nullWithoutRow(Check check, String call, Call made) {
        refusedWithoutRow(check, call, made, -11, NULL);
    }

    // Twice, with unlike findings ahead of it, so that none can stand there by chance.
    private static void refusedOn(
            Check check, boolean hasRow, String call, Call made, long answer, int finding) {
        for (int earlier = STORE; earlier <= SIZE; earlier++) {
            ServerLine x = scene(hasRow);
            List<Long> before = stateOf(x);
            if (earlier == STORE) {
                x.copy(1, 0, 2, 0, 0);
            } else {
                x.sheet(3, 0, -1);
            }
            check.due(call, made.on(x), answer);
            check.due(call + ", then count(3)", x.count(3), finding == 0 ? earlier : finding);
            List<Long> after = stateOf(x);
            check.due(call + " changes nothing " + before + after, after.equals(before) ? 1 : 0, 1);
        }
    }

    /** Points 0, 10, 16; two servers at 0 and 16; sheets of ints, bytes and shorts; sheet 3 is lost. */
    static ServerLine scene(boolean hasRow) {
        ServerLine x = Check.line(Check.row(0, 10, 16), 0, 2);
        x.factor(3);
        if (hasRow) {
            Check.fillForm(x, 0, 2, 1, 0, 2);
        }
        Check.fillForm(x, 1, 0, 1, 0);
        Check.fillForm(x, 2, 1, 7);
        return x;
    }

    // One item beyond each sheet is looked at too, so that it would be seen to grow.
    private static List<Long> stateOf(ServerLine x) {
        List<Long> state = new ArrayList<>(Arrays.asList(
            (long) x.count(0), (long) x.count(1), (long) x.count(2), (long) x.count(4), x.digest()));
        int[] forms = {2, 0, 1};
        int[] sizes = {3, 2, 1};
        for (int s = 0; s < 3; s++) {
            for (int i = 0; i <= sizes[s]; i++) {
                state.add((long) x.get(s, forms[s], i));
            }
        }
        for (int form = 0; form < 3; form++) {
            state.add((long) x.get(3, form, 0));
        }
        return state;
    }

    // ---- rows

    static int[] repeated(int length, int... numbers) {
        int[] row = new int[length];
        for (int i = 0; i < length; i++) {
            row[i] = numbers[i % numbers.length];
        }
        return row;
    }

    static void items(Check check, ServerLine x, int sheet, int form, int... want) {
        for (int i = 0; i < want.length; i++) {
            check.due("sheet " + sheet + " item " + i, x.get(sheet, form, i), want[i]);
        }
    }
}
