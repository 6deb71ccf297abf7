import java.io.IOException;
import java.lang.reflect.InvocationTargetException;
import java.lang.reflect.Method;
import java.nio.file.Files;
import java.nio.file.Path;
import java.util.ArrayList;
import java.util.Comparator;
import java.util.List;

/** Runs the tests of a class, each bound by Says to words that do stand in the document. */
final class Edges {
    private static final Path DOCUMENT = Path.of("../shared/DOC.md");

    private Edges() {
    }

    static void run(Class<?> tests) throws IOException {
        boolean isThere = Files.exists(DOCUMENT);
        String document = isThere ? Files.readString(DOCUMENT) : "";
        if (!isThere) {
            System.out.println(DOCUMENT + " is not here: what the tests quote is not looked up");
        }
        List<Method> all = testsOf(tests);
        int wrong = 0;
        for (Method test : all) {
            Says says = test.getAnnotation(Says.class);
            if (isThere && !section(document, says.promise()).contains(says.words())) {
                System.out.println(test.getName() + ": the document does not say: " + says.words());
                wrong++;
            }
            wrong += isWrong(test) ? 1 : 0;
        }
        System.out.println(all.size() + " tests, " + wrong + " failed");
        if (wrong != 0 || all.isEmpty()) {
            System.exit(1);
        }
    }

    static List<Method> testsOf(Class<?> tests) {
        List<Method> found = new ArrayList<>();
        for (Method m : tests.getDeclaredMethods()) {
            if (m.isAnnotationPresent(Says.class)) {
                m.setAccessible(true);
                found.add(m);
            }
        }
        found.sort(Comparator.comparing(Method::getName));
        return found;
    }

    /** A test that asks nothing holds nothing, so it is wrong too. */
    static boolean isWrong(Method test) {
        Checks checks = new Checks(test.getName());
        try {
            test.invoke(null, checks);
        } catch (InvocationTargetException | IllegalAccessException e) {
            System.out.println(test.getName() + " broke off: " + e.getCause());
            return true;
        }
        return checks.wrong() != 0 || checks.made() == 0;
    }

    private static String section(String document, int promise) {
        String begin = promise == 0 ? "# NailThreads" : "## Promise " + promise + ":";
        int from = document.indexOf(begin);
        int to = document.indexOf(promise == 30 ? "## Not promised" : "## Promise " + (promise + 1) + ":");
        return from < 0 || to < from ? "" : document.substring(from, to);
    }
}
