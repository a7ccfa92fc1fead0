import java.io.File;
import java.io.IOException;
import java.lang.reflect.Method;
import java.lang.reflect.Modifier;
import java.nio.file.Files;
import java.nio.file.Path;
import java.util.List;
import java.util.regex.Matcher;
import java.util.regex.Pattern;

/** README.md: the calls under "Use" are made, and must answer what their comments begin with. */
public final class ReadmeTest {
    private static final String README = "README.md";
    private static final String NEW_OBJECT = "DataTree x = new DataTree();";
    private static final Pattern CALL = Pattern.compile("x\\.(\\w+)\\((.*?)\\);\\s*(?://\\s*(.*))?");
    private static final Pattern ANSWER = Pattern.compile("(-?\\d+|true|false)(?::.*)?");

    public static void main(String[] args) throws IOException, ReflectiveOperationException {
        example(Files.readAllLines(Path.of(README)));
        everyCallIsTold(Files.readString(Path.of(README)));
        everyTestIsTold(Files.readString(Path.of(README)));
        Check.end();
    }

    private static void example(List<String> lines) throws ReflectiveOperationException {
        int from = lines.indexOf("```java") + 1;
        Check.yes("the example begins with a new object", lines.get(from).equals(NEW_OBJECT));
        DataTree x = new DataTree();
        int made = 0;
        for (int n = from + 1; !lines.get(n).equals("```"); n++) {
            if (!lines.get(n).isBlank()) {
                line(x, lines.get(n));
                made++;
            }
        }
        Check.yes("the example has calls", made > 0);
    }

    private static void line(DataTree x, String text) throws ReflectiveOperationException {
        Matcher call = CALL.matcher(text);
        if (!call.matches()) {
            Check.yes("a call: " + text, false);
            return;
        }
        Method method = methodOf(call.group(1));
        Object got = method.invoke(x, arguments(method, call.group(2)));
        if (got != null) {
            String want = said(call.group(3), method);
            Check.yes(text + " answered " + got, got.toString().equals(want));
        }
    }

    /** Without a comment, a call answers true. */
    private static String said(String comment, Method method) {
        if (comment == null) {
            return method.getReturnType() == boolean.class ? "true" : "an answer that is not told";
        }
        Matcher answer = ANSWER.matcher(comment);
        return answer.matches() ? answer.group(1) : "an answer that is not told";
    }

    private static Method methodOf(String name) throws NoSuchMethodException {
        for (Method m : DataTree.class.getDeclaredMethods()) {
            if (m.getName().equals(name)) {
                return m;
            }
        }
        throw new NoSuchMethodException(name);
    }

    private static Object[] arguments(Method method, String text) {
        Class<?>[] types = method.getParameterTypes();
        String[] parts = text.isEmpty() ? new String[0] : text.split(", ");
        Object[] all = new Object[parts.length];
        for (int n = 0; n < parts.length; n++) {
            long v = Long.decode(parts[n]);
            if (types[n] == int.class) {
                all[n] = (int) v;
            } else {
                all[n] = v;
            }
        }
        return all;
    }

    private static void everyCallIsTold(String text) {
        for (Method m : DataTree.class.getDeclaredMethods()) {
            if (Modifier.isPublic(m.getModifiers())) {
                Check.yes(m.getName() + " is told", text.contains("`" + m.getName() + "("));
            }
        }
    }

    private static void everyTestIsTold(String text) {
        String[] names = new File("src/test/java").list();
        Check.yes("tests are found", names != null && names.length > 0);
        for (String name : names) {
            Check.yes(name + " is told", text.contains("`" + name.replace(".java", "") + "`"));
        }
    }
}
