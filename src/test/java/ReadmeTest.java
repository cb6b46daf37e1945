import java.io.IOException;
import java.lang.reflect.Method;
import java.nio.file.Files;
import java.nio.file.Path;
import java.util.regex.Matcher;
import java.util.regex.Pattern;

/** Makes the calls of README.md's examples: each must answer what stands behind it there. */
public final class ReadmeTest {
    private static final Pattern CALL = Pattern.compile("x\\.(\\w+)\\((.*?)\\); +// (-?\\w+)(:.*)?");
    private static final int LEAST_CALLS = 20;
    private static final Check CHECK = new Check("ReadmeTest");

    public static void main(String[] args) throws IOException, ReflectiveOperationException {
        WideStack x = null;
        int calls = 0;
        for (String line : Files.readAllLines(Path.of("README.md"))) {
            Matcher call = CALL.matcher(line);
            if (line.equals("WideStack x = new WideStack();")) {
                x = new WideStack();
            } else if (call.matches()) {
                CHECK.due(line, String.valueOf(answer(x, call.group(1), call.group(2))), call.group(3));
                calls++;
            } else {
                CHECK.due("a call in another form: " + line, line.startsWith("x."), false);
            }
        }
        CHECK.due("the examples were found", calls >= LEAST_CALLS, true);
        CHECK.finish();
    }

    private static Object answer(WideStack x, String name, String written) throws ReflectiveOperationException {
        String[] words = written.isEmpty() ? new String[0] : written.split(", ");
        for (Method m : WideStack.class.getMethods()) {
            if (m.getName().equals(name) && m.getParameterCount() == words.length) {
                return m.invoke(x, arguments(m, words));
            }
        }
        return "no such call";
    }

    private static Object[] arguments(Method m, String[] words) {
        Object[] values = new Object[words.length];
        for (int i = 0; i < words.length; i++) {
            boolean truth = m.getParameterTypes()[i] == boolean.class;
            values[i] = truth ? (Object) Boolean.valueOf(words[i]) : Integer.decode(words[i]);
        }
        return values;
    }
}
