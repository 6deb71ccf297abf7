import java.io.IOException;
import java.lang.reflect.Constructor;
import java.lang.reflect.Field;
import java.lang.reflect.Method;
import java.lang.reflect.Modifier;
import java.nio.file.Files;
import java.nio.file.Path;
import java.util.Arrays;
import java.util.Set;
import java.util.TreeSet;
import java.util.regex.Matcher;
import java.util.regex.Pattern;

/** The face of the document, and those rules of LANGUAGE.md that can be read off the file. */
public final class LanguageTest {
    private static final Checks CHECKS = new Checks();
    private static final String[] FACE = {
        "int write(int)", "int wipe()", "int fault()", "int board()", "int thread(int,int)",
        "int stretch(int,int)", "int wind(int,int)", "int unwind(int)", "int cut(int)", "int turn()",
        "int behind()", "int undo()", "int crossings(int,int)", "int parts()", "int strokes()",
        "int next(int,int)", "int star(int,int,int,int)", "int judge(int,long)", "int see(int,int,int)",
        "int unsee()", "int stars(int)", "int share(int,boolean)", "int rests(int,int,int)",
        "int snaps(int,int,boolean)", "long seed(long)", "int years(int)", "int keep(int)", "int again(int)",
        "int count(int)"};
    private static final String[] CONSTANTS = {"UNKNOWN", "OUTSIDE", "STATE", "FULL", "NONE"};

    public static void main(String[] args) throws IOException {
        methods();
        fieldsAndConstructors();
        nestedClasses();
        String source = Files.readString(Path.of("src/main/java/NailThreads.java"));
        words(withoutComments(source));
        madeOnlyInConstructors(withoutComments(source));
        shortMethods(source);
        CHECKS.end();
    }

    private static String signature(Method m) {
        StringBuilder s = new StringBuilder(m.getReturnType().getName() + " " + m.getName() + "(");
        for (Class<?> p : m.getParameterTypes()) {
            s.append(s.charAt(s.length() - 1) == '(' ? "" : ",").append(p.getName());
        }
        return s.append(")").toString();
    }

    private static void methods() {
        Set<String> face = new TreeSet<>(Arrays.asList(FACE));
        Set<String> names = new TreeSet<>();
        Set<String> found = new TreeSet<>();
        for (Method m : NailThreads.class.getDeclaredMethods()) {
            if (Modifier.isPublic(m.getModifiers())) {
                found.add(signature(m));
                names.add(m.getName());
            } else {
                CHECKS.holds("rule 1: " + m + " is private", Modifier.isPrivate(m.getModifiers()));
            }
        }
        CHECKS.holds("rule 1: the methods are " + found, found.equals(face));
        for (Method m : NailThreads.class.getDeclaredMethods()) {
            CHECKS.holds("rule 1: private " + m.getName(),
                Modifier.isPublic(m.getModifiers()) || !names.contains(m.getName()));
        }
        for (Class<?> c : NailThreads.class.getDeclaredClasses()) {
            for (Method m : c.getDeclaredMethods()) {
                CHECKS.holds("rule 1: " + m + " bears a public name", !names.contains(m.getName()));
                CHECKS.holds("rule 11: " + m, m.getParameterCount() <= 7);
            }
        }
    }

    private static void fieldsAndConstructors() {
        for (Field f : NailThreads.class.getDeclaredFields()) {
            boolean isConstant = Arrays.asList(CONSTANTS).contains(f.getName());
            CHECKS.holds("rule 1: " + f, isConstant == Modifier.isPublic(f.getModifiers()));
            CHECKS.holds("rule 1: " + f + " private", isConstant || Modifier.isPrivate(f.getModifiers()));
        }
        Constructor<?>[] made = NailThreads.class.getDeclaredConstructors();
        CHECKS.holds("rule 1: one constructor", made.length == 1 && Modifier.isPublic(made[0].getModifiers())
            && made[0].getParameterCount() == 0);
        CHECKS.holds("rule 1: final", Modifier.isFinal(NailThreads.class.getModifiers()));
    }

    private static void nestedClasses() {
        Class<?>[] classes = NailThreads.class.getDeclaredClasses();
        CHECKS.holds("rule 11: classes " + classes.length, classes.length < 12);
        for (Class<?> c : classes) {
            CHECKS.holds("rule 2: " + c + " is static", Modifier.isStatic(c.getModifiers()));
            CHECKS.holds("rule 1: " + c + " is not public", !Modifier.isPublic(c.getModifiers()));
            for (Field f : c.getDeclaredFields()) {
                CHECKS.holds("rule 5: " + f,
                    !Modifier.isStatic(f.getModifiers()) || Modifier.isFinal(f.getModifiers()));
            }
        }
    }

    private static String withoutComments(String source) {
        return source.replaceAll("(?s)/\\*.*?\\*/", "").replaceAll("//[^\n]*", "");
    }

    private static void words(String code) {
        String[] wrong = {"\\bthrow\\b", "\\btry\\b", "\\bcatch\\b", "\\bsynchronized\\b", "\\bassert\\b",
            "\\bimport\\b", "\\bpackage\\b", "->", "::", "\\bprotected\\b", "\\bwhile *\\( *true",
            "\\bfor *\\( *;", "Exact\\(", "\\bdouble\\b", "\\bfloat\\b", "\\bnull\\b"};
        for (String w : wrong) {
            CHECKS.holds("no " + w, !Pattern.compile(w).matcher(code).find());
        }
    }

    /** All calls of a run live in one room, so no call may make anything. */
    private static void madeOnlyInConstructors(String code) {
        Matcher method = Pattern.compile("\n {4,8}((?:[a-z]+ )*)([A-Za-z\\[\\]]+ )?(\\w+)\\([^;{}]*\\) \\{").matcher(code);
        int from = 0;
        String name = "";
        while (method.find()) {
            checkMakes(name, code.substring(from, method.start()));
            from = method.start();
            name = method.group(3);
        }
        checkMakes(name, code.substring(from));
    }

    private static void checkMakes(String name, String body) {
        boolean isConstructor = !name.isEmpty() && Character.isUpperCase(name.charAt(0));
        CHECKS.holds("rule 12: " + name + " makes something", isConstructor || !body.contains("new "));
    }

    private static void shortMethods(String source) {
        String[] lines = source.split("\n");
        int begun = -1;
        String end = "";
        for (int i = 0; i < lines.length; i++) {
            if (begun < 0 && lines[i].matches(" {4}( {4})?\\S.*\\) \\{")) {
                begun = i;
                end = lines[i].replaceAll("\\S.*", "") + "}";
            } else if (begun >= 0 && lines[i].equals(end)) {
                CHECKS.holds("rule 11: long method at line " + (begun + 1), i - begun <= 60);
                begun = -1;
            }
        }
        CHECKS.holds("every method ends", begun < 0);
    }
}
