import java.io.IOException;
import java.lang.reflect.InvocationTargetException;
import java.lang.reflect.Method;
import java.lang.reflect.Modifier;
import java.nio.file.Files;
import java.nio.file.Path;
import java.util.Arrays;
import java.util.Set;
import java.util.TreeSet;
import java.util.regex.Matcher;
import java.util.regex.Pattern;
import java.util.stream.Collectors;

/** The calls that README.md shows answer what it says; a call without an arrow answers nothing. */
public final class ReadmeTest {
    private static final Checker CHECK = new Checker();
    private static final Pattern CALL = Pattern.compile("store\\.(\\w+)\\(([^)]*)\\);(?: +// (?:-> ([^:]+))?.*)?");

    private ReadmeTest() {
    }

    public static void main(String[] args) throws IOException {
        CHECK.topic("README.md");
        LineStore store = null;
        boolean isCode = false;
        Set<String> shown = new TreeSet<>();
        for (String row : Files.readAllLines(Path.of("README.md"))) {
            Matcher call = CALL.matcher(row);
            if (row.startsWith("```")) {
                isCode = row.equals("```java");
            } else if (isCode && row.equals("LineStore store = new LineStore();")) {
                store = new LineStore();
            } else if (isCode && !row.isEmpty()) {
                CHECK.same("'" + row + "' is a call", call.matches(), true);
                String due = call.group(3) == null ? "null" : call.group(3).trim();
                CHECK.same(row, answer(store, call.group(1), call.group(2)), due);
                shown.add(call.group(1));
            }
        }
        CHECK.same("calls that are shown", shown, Arrays.stream(LineStore.class.getDeclaredMethods())
                .filter(m -> Modifier.isPublic(m.getModifiers())).map(Method::getName)
                .collect(Collectors.toCollection(TreeSet::new)));
        CHECK.finish();
    }

    private static String answer(LineStore store, String name, String written) {
        Object[] given = written.isEmpty() ? new Object[0]
                : Arrays.stream(written.split(", *")).map(ReadmeTest::value).toArray();
        for (Method method : LineStore.class.getMethods()) {
            if (method.getName().equals(name) && method.getParameterCount() == given.length) {
                return made(store, method, given);
            }
        }
        return "no such call";
    }

    private static String made(LineStore store, Method method, Object[] given) {
        try {
            return String.valueOf(method.invoke(store, given));
        } catch (InvocationTargetException e) {
            return e.getCause().getClass().getSimpleName();
        } catch (IllegalAccessException e) {
            return "not public";
        }
    }

    private static Object value(String word) {
        if (word.equals("true") || word.equals("false")) {
            return Boolean.valueOf(word);
        }
        return word.startsWith("0b") ? Integer.valueOf(word.substring(2), 2) : Integer.decode(word);
    }
}
