import java.io.IOException;
import java.lang.reflect.Method;
import java.nio.file.Files;
import java.nio.file.Path;
import java.util.regex.Matcher;
import java.util.regex.Pattern;

/** Each call that README.md shows answers what stands behind it. */
public final class ReadmeTest {
    private static final Pattern CALL = Pattern.compile("(?m)^ditch\\.(\\w+)\\(([^)]*)\\); *// (-?\\d+): \\S.*$");
    private static final Pattern SHOWN = Pattern.compile("(?m)^ditch\\.");

    public static void main(String[] args) throws IOException, ReflectiveOperationException {
        String page = Files.readString(Path.of("README.md"));
        NightDitch ditch = new NightDitch();
        Matcher call = CALL.matcher(page);
        long calls = 0;
        while (call.find()) {
            calls++;
            Due.is(call.group(), answer(ditch, call.group(1), call.group(2)), Long.parseLong(call.group(3)));
        }
        Due.holds("that calls are shown", calls > 0);
        Due.is("the calls that were made", calls, SHOWN.matcher(page).results().count());
        Due.end();
    }

    private static long answer(NightDitch ditch, String name, String given) throws ReflectiveOperationException {
        for (Method method : NightDitch.class.getDeclaredMethods()) {
            if (method.getName().equals(name)) {
                return ((Number) method.invoke(ditch, numbers(method.getParameterTypes(), given))).longValue();
            }
        }
        Due.holds("that there is a call " + name, false);
        return 0;
    }

    private static Object[] numbers(Class<?>[] types, String given) {
        String[] parts = given.isEmpty() ? new String[0] : given.split(", ");
        Object[] numbers = new Object[parts.length];
        for (int i = 0; i < parts.length; i++) {
            long v = Long.decode(parts[i]);
            numbers[i] = types[i] == long.class ? (Object) v : (Object) (int) v;
        }
        return numbers;
    }
}
