import java.io.IOException;
import java.lang.reflect.InvocationTargetException;
import java.lang.reflect.Method;
import java.lang.reflect.Modifier;
import java.nio.file.Files;
import java.nio.file.Path;
import java.util.regex.Matcher;
import java.util.regex.Pattern;

/** README.md tells how to use the class: each answer in its example is the one that is due, and each call is named. */
public final class ReadmeTests {
    private static final Pattern LINE = Pattern.compile("x\\.(\\w+)\\(([^)]*)\\);\\s*// .*: (-?\\d+)");
    private final Due due = new Due();
    private final SortTransform x = new SortTransform();

    public static void main(String[] args) throws IOException, ReflectiveOperationException {
        ReadmeTests tests = new ReadmeTests();
        String text = Files.readString(Path.of("README.md"));
        tests.example(text);
        tests.namesEachCall(text);
        tests.due.end("ReadmeTests");
    }

    private void example(String text) throws ReflectiveOperationException {
        int begin = text.indexOf("```java\n");
        int end = text.indexOf("```\n", begin + 1);
        due.isTrue("README.md has an example", begin >= 0 && end > begin);
        String[] lines = text.substring(begin, end).split("\n");
        // The first two lines are the mark of the example and the new object.
        for (int i = 2; i < lines.length; i++) {
            Matcher line = LINE.matcher(lines[i]);
            boolean isCall = line.matches();
            due.isTrue("a call and its answer: " + lines[i], isCall);
            if (isCall) {
                due.is("README.md: " + lines[i], answer(line.group(1), line.group(2)), Integer.parseInt(line.group(3)));
            }
        }
    }

    private int answer(String name, String arguments) throws ReflectiveOperationException {
        Method method = find(name);
        String[] texts = arguments.isEmpty() ? new String[0] : arguments.split(", ");
        Object[] values = new Object[texts.length];
        for (int i = 0; i < texts.length; i++) {
            long value = Long.decode(texts[i].replace("L", ""));
            values[i] = method.getParameterTypes()[i] == long.class ? (Object) value : (Object) (int) value;
        }
        try {
            return (int) method.invoke(x, values);
        } catch (InvocationTargetException thrown) {
            throw new IllegalStateException(name + " ended with " + thrown.getCause(), thrown);
        }
    }

    private static Method find(String name) {
        for (Method method : SortTransform.class.getMethods()) {
            if (method.getName().equals(name)) {
                return method;
            }
        }
        throw new IllegalStateException("README.md has a call that is not there: " + name);
    }

    private void namesEachCall(String text) {
        for (Method method : SortTransform.class.getDeclaredMethods()) {
            if (Modifier.isPublic(method.getModifiers())) {
                due.isTrue("README.md names " + method.getName(), text.contains("`" + method.getName() + "("));
            }
        }
    }
}
