import java.io.IOException;
import java.lang.reflect.InvocationTargetException;
import java.lang.reflect.Method;
import java.nio.file.Files;
import java.nio.file.Path;
import java.util.regex.Matcher;
import java.util.regex.Pattern;

/** The calls that README.md shows answer as it says. */
public final class ReadmeTest {
    private static final int LEAST_SHOWN = 20;
    private static final Pattern LAND = Pattern.compile("```text\n(.*?)```", Pattern.DOTALL);
    private static final Pattern CALL = Pattern.compile("(?m)^k\\.([a-zA-Z]+)\\((.*)\\); *// (-?\\d+)");

    private ReadmeTest() {
    }

    public static void main(String[] args) throws IOException, ReflectiveOperationException {
        String page = Files.readString(Path.of("README.md"));
        Matcher land = LAND.matcher(page);
        KnowsLeast k = Check.landed(land.find() ? land.group(1) : "");
        Matcher shown = CALL.matcher(page);
        int calls = 0;
        while (shown.find()) {
            String call = shown.group(1) + "(" + shown.group(2) + ")";
            Check.due(call, Long.parseLong(shown.group(3)), answer(k, shown.group(1), shown.group(2)));
            calls++;
        }
        Check.due("README.md shows calls", 1, calls >= LEAST_SHOWN ? 1 : 0);
        Check.end("ReadmeTest");
    }

    private static long answer(KnowsLeast k, String name, String given)
            throws IllegalAccessException, InvocationTargetException {
        String[] numbers = given.isBlank() ? new String[0] : given.split(", *");
        for (Method m : KnowsLeast.class.getMethods()) {
            if (m.getName().equals(name) && m.getParameterCount() == numbers.length) {
                Object[] values = new Object[numbers.length];
                for (int i = 0; i < values.length; i++) {
                    values[i] = m.getParameterTypes()[i] == long.class
                            ? (Object) Long.valueOf(numbers[i]) : (Object) Integer.valueOf(numbers[i]);
                }
                return ((Number) m.invoke(k, values)).longValue();
            }
        }
        throw new IllegalArgumentException("no call " + name);
    }
}
