import java.io.IOException;
import java.lang.reflect.Method;
import java.nio.file.Files;
import java.nio.file.Path;
import java.util.regex.Matcher;
import java.util.regex.Pattern;

/** The examples of README.md answer what stands behind them there. */
public final class ReadmeTest {
    private static final Pattern NEW_STORE = Pattern.compile("ForkedStore store = new ForkedStore\\(\\);");
    private static final Pattern CALL = Pattern.compile("store\\.(\\w+)\\((.*)\\); +// (-?\\d+)(:.*)?");

    private ReadmeTest() {
    }

    public static void main(String[] args) throws IOException, ReflectiveOperationException {
        boolean isExample = false;
        int examples = 0;
        ForkedStore store = null;
        for (String line : Files.readAllLines(Path.of("README.md"))) {
            if (line.startsWith("```")) {
                isExample = line.equals("```java");
            } else if (isExample && NEW_STORE.matcher(line).matches()) {
                store = new ForkedStore();
                examples++;
            } else if (isExample) {
                answers(store, line);
            }
        }
        Due.due("examples in README.md", examples, 2);
        Due.finish();
    }

    private static void answers(ForkedStore store, String line) throws ReflectiveOperationException {
        Matcher call = CALL.matcher(line);
        if (!call.matches()) {
            Due.due("'" + line + "' is a call with its answer", 0, 1);
            return;
        }
        String[] texts = call.group(2).isEmpty() ? new String[0] : call.group(2).split(", ");
        Method method = methodFor(call.group(1), texts.length);
        if (method == null) {
            Due.due("'" + line + "' is a call of a method that there is", 0, 1);
            return;
        }
        Object[] arguments = new Object[texts.length];
        for (int i = 0; i < texts.length; i++) {
            arguments[i] = argument(texts[i]);
        }
        Due.due("README.md: " + line, (Integer) method.invoke(store, arguments), Integer.parseInt(call.group(3)));
    }

    private static Method methodFor(String name, int parameters) {
        for (Method method : ForkedStore.class.getMethods()) {
            if (method.getName().equals(name) && method.getParameterCount() == parameters) {
                return method;
            }
        }
        return null;
    }

    private static Object argument(String text) {
        return text.startsWith("'") ? (Object) text.charAt(1) : (Object) Integer.valueOf(text);
    }
}
