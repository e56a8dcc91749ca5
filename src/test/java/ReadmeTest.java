import java.io.IOException;
import java.lang.reflect.Method;
import java.nio.file.Files;
import java.nio.file.Path;
import java.util.regex.Matcher;
import java.util.regex.Pattern;

/** Each call that README.md shows answers the number that stands behind it; each block has a new object. */
public final class ReadmeTest {
    private static final Pattern SHOWN = Pattern.compile("x\\.(\\w+)\\(([-0-9, ]*)\\);\\s*// (-?[0-9]+)(:.*)?");

    public static void main(String[] args) throws IOException, ReflectiveOperationException {
        RotorBalancer x = null;
        int calls = 0;
        for (String line : Files.readAllLines(Path.of("README.md"))) {
            if (line.startsWith("```")) {
                x = line.equals("```java") ? new RotorBalancer() : null;
            } else if (x != null) {
                Matcher shown = SHOWN.matcher(line);
                boolean isCall = shown.matches();
                Check.dueTrue("'" + line + "' is a call with its answer", isCall);
                if (isCall) {
                    Check.due(line, answer(x, shown.group(1), shown.group(2)), Long.parseLong(shown.group(3)));
                    calls++;
                }
            }
        }
        Check.dueTrue("README.md shows calls", calls > 0);
        Check.end();
    }

    private static long answer(RotorBalancer x, String name, String numbers) throws ReflectiveOperationException {
        String[] texts = numbers.isEmpty() ? new String[0] : numbers.split(", ");
        Object[] values = new Object[texts.length];
        for (int i = 0; i < values.length; i++) {
            values[i] = Integer.valueOf(texts[i]);
        }
        for (Method m : RotorBalancer.class.getMethods()) {
            if (m.getName().equals(name) && m.getParameterCount() == values.length) {
                return ((Number) m.invoke(x, values)).longValue();
            }
        }
        throw new NoSuchMethodException(name);
    }
}
