import java.io.IOException;
import java.lang.reflect.Method;
import java.lang.reflect.Modifier;
import java.nio.file.Files;
import java.nio.file.Path;
import java.util.List;
import java.util.regex.Matcher;
import java.util.regex.Pattern;

/** The example in README.md answers what stands behind each of its calls, and each call of the class is named there. */
public final class ReadmeTest {
    private static final Pattern CALL = Pattern.compile("x\\.(\\w+)\\(([-0-9, ]*)\\);\\s+// (-?\\d+)(:.*)?");

    private ReadmeTest() {
    }

    public static void main(String[] args) throws IOException, ReflectiveOperationException {
        List<String> lines = Files.readAllLines(Path.of("README.md"));
        example(lines);
        everyCallIsNamed(String.join("\n", lines));
        Checks.finish("ReadmeTest");
    }

    private static void example(List<String> lines) throws ReflectiveOperationException {
        SmoothPieces x = new SmoothPieces();
        int calls = 0;
        for (String line : lines) {
            if (line.startsWith("x.")) {
                Matcher told = CALL.matcher(line);
                Checks.holds(line + " is a call with its answer", told.matches());
                if (told.matches()) {
                    Checks.due(line, answer(x, told.group(1), told.group(2)), Long.parseLong(told.group(3)));
                    calls++;
                }
            }
        }
        Checks.holds("README.md has an example", calls > 0);
    }

    private static long answer(SmoothPieces x, String name, String numbers) throws ReflectiveOperationException {
        String[] told = numbers.isEmpty() ? new String[0] : numbers.split(", ");
        Class<?>[] types = new Class<?>[told.length];
        Object[] values = new Object[told.length];
        for (int k = 0; k < told.length; k++) {
            types[k] = int.class;
            values[k] = Integer.valueOf(told[k]);
        }
        return ((Number) SmoothPieces.class.getMethod(name, types).invoke(x, values)).longValue();
    }

    private static void everyCallIsNamed(String text) {
        for (Method method : SmoothPieces.class.getDeclaredMethods()) {
            if (Modifier.isPublic(method.getModifiers())) {
                Checks.holds(method.getName() + " is named", text.contains("`" + method.getName() + "("));
            }
        }
    }
}
