import java.io.IOException;
import java.lang.reflect.InvocationTargetException;
import java.lang.reflect.Method;
import java.nio.file.Files;
import java.nio.file.Path;
import java.util.regex.Matcher;
import java.util.regex.Pattern;

/** Every call in README.md answers as the number behind it tells. */
public final class ReadmeTests extends Kit {
    private static final Pattern PUT = Pattern.compile("put\\(x, \"([^\"]*)\"\\);");
    private static final Pattern CALL = Pattern.compile("x\\.(\\w+)\\(([^)]*)\\); +// (-?\\d+): .*");

    public static void main(String[] args) throws IOException, IllegalAccessException, InvocationTargetException {
        SwapTrophies x = null;
        int calls = 0;
        for (String line : Files.readAllLines(Path.of("README.md"))) {
            Matcher text = PUT.matcher(line);
            Matcher call = CALL.matcher(line);
            if (line.equals("SwapTrophies x = new SwapTrophies();")) {
                x = new SwapTrophies();
            } else if (text.matches()) {
                put(x, text.group(1));
            } else if (call.matches()) {
                due(0, line, answer(x, call.group(1), call.group(2)), Long.parseLong(call.group(3)));
                calls++;
            } else if (line.startsWith("x.")) {
                due(0, line + " tells no answer;", 1, 0);
            }
        }
        due(0, "README.md shows calls;", calls > 30 ? 1 : 0, 1);
        finish("README.md tells what is so");
    }

    private static long answer(SwapTrophies x, String name, String told) throws IllegalAccessException, InvocationTargetException {
        String[] numbers = told.isEmpty() ? new String[0] : told.split(", ");
        for (Method method : SwapTrophies.class.getDeclaredMethods()) {
            if (method.getName().equals(name) && method.getParameterCount() == numbers.length) {
                Object[] values = new Object[numbers.length];
                for (int i = 0; i < numbers.length; i++) {
                    long value = Long.decode(numbers[i]);
                    values[i] = method.getParameterTypes()[i] == long.class ? (Object) value : (Object) (int) value;
                }
                return ((Number) method.invoke(x, values)).longValue();
            }
        }
        due(0, "there is no " + name + ";", 1, 0);
        return Long.MIN_VALUE;
    }
}
