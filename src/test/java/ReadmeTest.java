import java.io.IOException;
import java.lang.reflect.Method;
import java.lang.reflect.Modifier;
import java.nio.file.Files;
import java.nio.file.Path;
import java.util.regex.Matcher;
import java.util.regex.Pattern;

/** The calls of README.md answer what stands behind them there, and it names every call. */
public final class ReadmeTest {
    private static final Pattern CALL = Pattern.compile("(?m)^x\\.(\\w+)\\(([^)]*)\\);\\s*// (-?\\d+):");

    private ReadmeTest() {
    }

    public static void main(String[] args) throws IOException, ReflectiveOperationException {
        String page = Files.readString(Path.of("README.md"));
        Matcher calls = CALL.matcher(page);
        NotchKeys x = new NotchKeys();
        int found = 0;
        while (calls.find()) {
            Object answer = call(x, calls.group(1), calls.group(2));
            Due.is("README: " + calls.group(), ((Number) answer).longValue(), Long.parseLong(calls.group(3)));
            found++;
        }
        Due.is("calls in the README that have an answer", found, page.split("(?m)^x\\.", -1).length - 1);
        Due.is("the README has calls", found > 0 ? 1 : 0, 1);
        for (Method method : NotchKeys.class.getDeclaredMethods()) {
            if (Modifier.isPublic(method.getModifiers())) {
                Due.is("the README names " + method.getName(), page.contains("`" + method.getName() + "`") ? 1 : 0, 1);
            }
        }
        Due.end();
    }

    private static Object call(NotchKeys x, String name, String told) throws ReflectiveOperationException {
        String[] numbers = told.isEmpty() ? new String[0] : told.split(", ");
        for (Method method : NotchKeys.class.getDeclaredMethods()) {
            if (method.getName().equals(name) && method.getParameterCount() == numbers.length) {
                Object[] given = new Object[numbers.length];
                for (int i = 0; i < numbers.length; i++) {
                    long number = Long.decode(numbers[i].replace("L", ""));
                    if (method.getParameterTypes()[i] == int.class) {
                        given[i] = Math.toIntExact(number);
                    } else {
                        given[i] = number;
                    }
                }
                return method.invoke(x, given);
            }
        }
        throw new IllegalStateException("no such call: " + name);
    }
}
