import java.io.IOException;
import java.lang.reflect.Field;
import java.lang.reflect.Method;
import java.lang.reflect.Modifier;
import java.nio.file.Files;
import java.nio.file.Path;
import java.util.regex.Matcher;
import java.util.regex.Pattern;

/** What README.md says of the class: a page that tells wrong answers is worse than none. */
public final class ReadmeTest {
    private static final Checks CHECKS = new Checks();
    private static final Pattern EXAMPLE = Pattern.compile("(?s)```java\n(.*?)```");
    private static final Pattern TEXT = Pattern.compile("\"(\\w+)\"\\.toCharArray");
    private static final Pattern CALL = Pattern.compile("(?m)^x\\.(\\w+)\\((.*?)\\);(.*)$");
    private static final Pattern ANSWER = Pattern.compile("\\s*// (-?\\d+)\\b.*");

    public static void main(String[] args) throws IOException, ReflectiveOperationException {
        String page = Files.readString(Path.of("README.md"));
        Matcher example = EXAMPLE.matcher(page);
        CHECKS.holds("there is an example", example.find());
        tryOut(example.group(1));
        namesAll(page);
        CHECKS.end();
    }

    private static void tryOut(String example) throws ReflectiveOperationException {
        Matcher text = TEXT.matcher(example);
        CHECKS.holds("the example tells a board", text.find());
        NailThreads x = new NailThreads();
        Checks.tell(x, text.group(1));
        Matcher call = CALL.matcher(example);
        int tried = 0;
        while (call.find()) {
            Matcher answer = ANSWER.matcher(call.group(3));
            CHECKS.holds(call.group() + " tells its answer", answer.matches());
            CHECKS.due(call.group(), made(x, call.group(1), call.group(2)), Long.parseLong(answer.group(1)));
            tried++;
        }
        CHECKS.due("lines of the example", tried, example.lines().filter(l -> l.startsWith("x.")).count());
    }

    private static long made(NailThreads x, String name, String told) throws ReflectiveOperationException {
        for (Method m : NailThreads.class.getMethods()) {
            if (m.getName().equals(name) && m.getDeclaringClass() == NailThreads.class) {
                return ((Number) m.invoke(x, valuesOf(m.getParameterTypes(), told))).longValue();
            }
        }
        throw new NoSuchMethodException(name);
    }

    private static Object[] valuesOf(Class<?>[] types, String told) {
        String[] each = told.isEmpty() ? new String[0] : told.split(", ");
        Object[] values = new Object[each.length];
        for (int i = 0; i < each.length && i < types.length; i++) {
            if (types[i] == boolean.class) {
                values[i] = Boolean.valueOf(each[i]);
            } else if (types[i] == long.class) {
                values[i] = Long.valueOf(each[i].replace("L", ""));
            } else {
                values[i] = Integer.valueOf(each[i]);
            }
        }
        return values;
    }

    private static void namesAll(String page) throws IllegalAccessException {
        for (Method m : NailThreads.class.getDeclaredMethods()) {
            CHECKS.holds("README.md names " + m.getName(),
                !Modifier.isPublic(m.getModifiers()) || page.contains("`" + m.getName() + "`"));
        }
        for (Field f : NailThreads.class.getFields()) {
            CHECKS.holds("README.md tells " + f.getName(),
                page.contains("`" + f.getName() + "` (" + f.getInt(null) + ")"));
        }
    }
}
