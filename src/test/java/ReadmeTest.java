import java.io.IOException;
import java.lang.reflect.InvocationTargetException;
import java.lang.reflect.Method;
import java.nio.file.Files;
import java.nio.file.Path;
import java.util.regex.Matcher;
import java.util.regex.Pattern;

/** Does each call that README.md shows, in its order, and compares it with the answer that README.md says it has. */
final class ReadmeTest {
    private static final Path README = Path.of("README.md");
    private static final Pattern CALL = Pattern.compile("x\\.(\\w+)\\((.*)\\);\\s+// (throws )?([^:]+)(:.*)?");
    private static final String MAKE = "Triplane x = new Triplane();";

    public static void main(String[] args) throws IOException, ReflectiveOperationException {
        Triplane x = null;
        boolean isCode = false;
        int calls = 0;
        for (String line : Files.readAllLines(README)) {
            if (line.startsWith("```")) {
                isCode = line.equals("```java");
            } else if (isCode && line.equals(MAKE)) {
                x = new Triplane();
            } else if (isCode) {
                Matcher call = CALL.matcher(line);
                boolean isCall = x != null && call.matches();
                Check.same("a call with its answer: " + line, true, isCall);
                if (isCall) {
                    Check.same(line, call.group(4), answer(x, call.group(1), call.group(2)));
                    calls++;
                }
            }
        }
        Check.same("README.md shows calls", true, calls > 50);
        Check.end();
    }

    private static String answer(Triplane x, String name, String arguments) throws ReflectiveOperationException {
        String[] texts = arguments.isEmpty() ? new String[0] : arguments.split(", ");
        Method method = named(name);
        Object[] values = new Object[texts.length];
        for (int i = 0; i < texts.length; i++) {
            values[i] = value(method.getParameterTypes()[i], texts[i]);
        }
        try {
            return String.valueOf(method.invoke(x, values));
        } catch (InvocationTargetException e) {
            return e.getCause().getClass().getSimpleName();
        }
    }

    private static Method named(String name) throws NoSuchMethodException {
        for (Method method : Triplane.class.getMethods()) {
            if (method.getName().equals(name)) {
                return method;
            }
        }
        throw new NoSuchMethodException(name);
    }

    private static Object value(Class<?> type, String text) {
        if (type == char.class) {
            return text.charAt(1);
        }
        if (type == boolean.class) {
            return Boolean.parseBoolean(text);
        }
        return Integer.parseInt(text);
    }
}
