import java.io.IOException;
import java.lang.reflect.Method;
import java.nio.file.Files;
import java.nio.file.Path;
import java.util.regex.Matcher;
import java.util.regex.Pattern;

/** The calls in README.md, one behind the other on one object, answer what stands behind them. */
public final class ReadmeTest extends Scene {
    private static final Pattern CALL = Pattern.compile("trust\\.(\\w+)\\((.*)\\); +// (-?\\d+)\\b.*");
    private static final Pattern TEXT = Pattern.compile("packed\\(\"(.*)\"\\)");
    private static final String CONSTANT = "SwingUnits.";

    public static void main(String[] args) throws IOException, ReflectiveOperationException {
        Check.watch();
        CHECK.part("README.md");
        fresh();
        int calls = 0;
        for (String line : Files.readAllLines(Path.of("README.md"))) {
            Matcher call = CALL.matcher(line);
            if (call.matches()) {
                calls++;
                due(line, answer(call.group(1), call.group(2)), Long.parseLong(call.group(3)));
            } else {
                CHECK.holds("this line tells its answer: " + line, !line.startsWith("trust."));
            }
        }
        CHECK.holds("there are calls", calls > 0);
        CHECK.end("ReadmeTest");
    }

    private static long answer(String name, String arguments) throws ReflectiveOperationException {
        String[] words = arguments.isEmpty() ? new String[0] : arguments.split(", ");
        for (Method method : SwingUnits.class.getMethods()) {
            if (method.getName().equals(name) && method.getParameterCount() == words.length) {
                return ((Number) method.invoke(x, values(method, words))).longValue();
            }
        }
        throw new NoSuchMethodException(name);
    }

    private static Object[] values(Method method, String[] words) throws ReflectiveOperationException {
        Object[] values = new Object[words.length];
        for (int i = 0; i < words.length; i++) {
            long value = value(words[i]);
            if (method.getParameterTypes()[i] == long.class) {
                values[i] = value;
            } else {
                values[i] = (int) value;
            }
        }
        return values;
    }

    private static long value(String word) throws ReflectiveOperationException {
        Matcher text = TEXT.matcher(word);
        if (text.matches()) {
            return packed(text.group(1));
        }
        if (word.startsWith(CONSTANT)) {
            return SwingUnits.class.getField(word.substring(CONSTANT.length())).getInt(null);
        }
        return Long.parseLong(word);
    }
}
