import java.io.ByteArrayOutputStream;
import java.io.IOException;
import java.io.OutputStream;
import java.io.PrintStream;
import java.lang.reflect.Method;
import java.net.URI;
import java.nio.file.Files;
import java.nio.file.Path;
import java.util.ArrayList;
import java.util.HashMap;
import java.util.LinkedHashMap;
import java.util.List;
import java.util.Map;
import java.util.Set;
import java.util.TreeMap;
import java.util.TreeSet;
import java.util.concurrent.Callable;
import java.util.concurrent.ExecutorService;
import java.util.concurrent.Executors;
import java.util.concurrent.Future;
import java.util.concurrent.FutureTask;
import java.util.concurrent.TimeUnit;
import java.util.concurrent.TimeoutException;
import java.util.regex.Matcher;
import java.util.regex.Pattern;
import javax.tools.FileObject;
import javax.tools.ForwardingJavaFileManager;
import javax.tools.JavaCompiler;
import javax.tools.JavaFileManager;
import javax.tools.JavaFileObject;
import javax.tools.SimpleJavaFileObject;
import javax.tools.StandardJavaFileManager;
import javax.tools.ToolProvider;

/**
 * Changes the class at one place at a time and tells which changes no test of the edges finds, and which tests
 * find none. Not a test itself: what it tells has to be read, as some changes alter no answer.
 * Use: Mutants classes source, where classes holds the compiled tests.
 */
public final class Mutants {
    private static final String[] TESTS = {
        "EdgesOfBoardTest", "EdgesOfRefusalsTest", "EdgesOfLooksTest", "EdgesOfChancesTest", "EdgesOfCallsTest"};
    /** What is looked for in a line of code, and what stands there in its place. */
    private static final String[][] CHANGES = {
        {"(?<![\\w.])(\\d+)(?![\\w.])", "+1"}, {"(?<![\\w.])(\\d+)(?![\\w.])", "-1"},
        {" < ", " <= "}, {" <= ", " < "}, {" > ", " >= "}, {" >= ", " > "}, {" == ", " != "}, {" != ", " == "},
        {" < ", " > "}, {" > ", " < "}, {" && ", " || "}, {" \\|\\| ", " && "}, {" \\+ ", " - "}, {" - ", " + "},
        {" \\* ", " + "}, {" / ", " * "}, {" % ", " / "}, {" >>> ", " >> "}, {" >> ", " << "}, {" \\| ", " & "},
        {" \\+= ", " -= "}, {" -= ", " += "}, {"\\|= ", "= "}, {"\\+\\+;", "--;"}, {"--;", "++;"},
        {"return !", "return "}, {"if \\(!", "if ("}, {"true", "false"}, {"false", "true"},
        {"UNKNOWN;", "OUTSIDE;"}, {"OUTSIDE;", "UNKNOWN;"}, {"STATE;", "OUTSIDE;"}, {"\\bFULL;", "OUTSIDE;"},
        {"NONE;", "OUTSIDE;"}, {"\\bALL\\b", "0"}, {"Math\\.max", "Math.min"}, {"Math\\.min", "Math.max"},
        {"^ +[\\w.\\[\\]]+(\\(.*\\)| [-+*|]?= .*|\\+\\+|--);$", ";"}};

    private final Map<String, byte[]> tests = new HashMap<>();
    private final String[] lines;
    private final Map<String, Integer> found = new TreeMap<>();
    private int broken = 0;

    private Mutants(Path classes, Path source) throws IOException {
        lines = Files.readString(source).split("\n", -1);
        try (var all = Files.list(classes)) {
            for (Path p : (Iterable<Path>) all::iterator) {
                String name = p.getFileName().toString();
                if (name.endsWith(".class") && !name.startsWith("NailThreads")) {
                    tests.put(name.substring(0, name.length() - 6), Files.readAllBytes(p));
                }
            }
        }
    }

    public static void main(String[] args) throws Exception {
        PrintStream out = System.out;
        System.setOut(new PrintStream(OutputStream.nullOutputStream()));
        new Mutants(Path.of(args[0]), Path.of(args[1])).run(out);
        System.exit(0);
    }

    private void run(PrintStream out) throws Exception {
        Map<String, Future<Set<String>>> results = new LinkedHashMap<>();
        ExecutorService pool = Executors.newFixedThreadPool(Runtime.getRuntime().availableProcessors());
        for (String[] change : changed()) {
            results.put(change[0], pool.submit(() -> findersOf(change[1])));
        }
        Set<String> names = new TreeSet<>(namesOf(loaderOf(String.join("\n", lines))));
        int kept = 0;
        for (Map.Entry<String, Future<Set<String>>> e : results.entrySet()) {
            Set<String> finders = e.getValue().get();
            if (finders == null) {
                broken++;
                continue;
            }
            finders.forEach(name -> found.merge(name, 1, Integer::sum));
            if (finders.isEmpty()) {
                kept++;
                out.println("not found: " + e.getKey());
            }
        }
        names.removeAll(found.keySet());
        names.forEach(name -> out.println("finds nothing: " + name));
        out.println(results.size() + " changes, " + broken + " do not compile, " + kept + " not found; "
            + names.size() + " tests find nothing");
    }

    /** Each change as what it is, and the whole source with it. */
    private List<String[]> changed() {
        List<String[]> all = new ArrayList<>();
        for (int i = 0; i < lines.length; i++) {
            String line = lines[i];
            if (line.trim().startsWith("/") || line.trim().startsWith("*") || line.contains("class ")) {
                continue;
            }
            for (String[] change : CHANGES) {
                Matcher m = Pattern.compile(change[0]).matcher(line);
                while (m.find()) {
                    String put = change[1].matches("[+-]1")
                        ? Long.toString(Long.parseLong(m.group(1)) + Long.parseLong(change[1])) : change[1];
                    String other = line.substring(0, m.start()) + put + line.substring(m.end());
                    all.add(new String[] {(i + 1) + ": " + line.trim() + "  ->  " + other.trim(), with(i, other)});
                }
            }
        }
        return all;
    }

    private String with(int at, String other) {
        String[] copy = lines.clone();
        copy[at] = other;
        return String.join("\n", copy);
    }

    /** The names of the tests that find the change, or null if it does not compile. */
    private Set<String> findersOf(String source) throws Exception {
        ClassLoader loader = loaderOf(source);
        if (loader == null) {
            return null;
        }
        Set<String> finders = new TreeSet<>();
        Method isWrong = loader.loadClass("Edges").getDeclaredMethod("isWrong", Method.class);
        isWrong.setAccessible(true);
        for (String name : TESTS) {
            for (Method test : testsIn(loader, name)) {
                if (withinTime(() -> (Boolean) isWrong.invoke(null, test))) {
                    finders.add(name + "." + test.getName());
                }
            }
        }
        return finders;
    }

    private static boolean withinTime(Callable<Boolean> asked) throws Exception {
        FutureTask<Boolean> task = new FutureTask<>(asked);
        Thread t = new Thread(task);
        t.setDaemon(true);
        t.start();
        try {
            return task.get(10, TimeUnit.SECONDS);
        } catch (TimeoutException e) {
            return true;
        }
    }

    private static Set<String> namesOf(ClassLoader loader) throws Exception {
        Set<String> names = new TreeSet<>();
        for (String name : TESTS) {
            for (Method test : testsIn(loader, name)) {
                names.add(name + "." + test.getName());
            }
        }
        return names;
    }

    private static List<Method> testsIn(ClassLoader loader, String name) throws Exception {
        Method testsOf = loader.loadClass("Edges").getDeclaredMethod("testsOf", Class.class);
        testsOf.setAccessible(true);
        List<Method> tests = new ArrayList<>();
        for (Object m : (List<?>) testsOf.invoke(null, loader.loadClass(name))) {
            tests.add((Method) m);
        }
        return tests;
    }

    private ClassLoader loaderOf(String source) throws IOException {
        Map<String, ByteArrayOutputStream> made = new HashMap<>();
        JavaCompiler compiler = ToolProvider.getSystemJavaCompiler();
        try (StandardJavaFileManager files = compiler.getStandardFileManager(d -> { }, null, null)) {
            JavaFileManager memory = new ForwardingJavaFileManager<>(files) {
                @Override
                public JavaFileObject getJavaFileForOutput(Location l, String name, JavaFileObject.Kind k, FileObject s) {
                    return new SimpleJavaFileObject(URI.create("mem:///" + name + ".class"), k) {
                        @Override
                        public OutputStream openOutputStream() {
                            return made.computeIfAbsent(name, n -> new ByteArrayOutputStream());
                        }
                    };
                }
            };
            JavaFileObject file = new SimpleJavaFileObject(URI.create("mem:///NailThreads.java"),
                JavaFileObject.Kind.SOURCE) {
                @Override
                public CharSequence getCharContent(boolean ignore) {
                    return source;
                }
            };
            if (!compiler.getTask(null, memory, d -> { }, null, null, List.of(file)).call()) {
                return null;
            }
        }
        Map<String, byte[]> all = new HashMap<>(tests);
        made.forEach((name, bytes) -> all.put(name, bytes.toByteArray()));
        return new ClassLoader(ClassLoader.getPlatformClassLoader()) {
            @Override
            protected Class<?> findClass(String name) throws ClassNotFoundException {
                byte[] bytes = all.get(name);
                if (bytes == null) {
                    throw new ClassNotFoundException(name);
                }
                return defineClass(name, bytes, 0, bytes.length);
            }
        };
    }
}
