import java.io.IOException;
import java.lang.reflect.InvocationTargetException;
import java.lang.reflect.Method;
import java.nio.file.Files;
import java.nio.file.Path;
import java.util.regex.Matcher;
import java.util.regex.Pattern;

/** The calls that README.md shows, each with its answer behind it. It is read from the folder where the test runs. */
public final class ReadmeTest {
    private static final Pattern CALL = Pattern.compile("chain\\.(\\w+)\\(([-0-9, ]*)\\);\\s*// (-?\\d+|\\w+Exception)?.*");

    public static void main(String[] args) throws IOException {
        Check.sentence("README.md says how to use the class");
        StakeChain chain = new StakeChain();
        int calls = 0;
        for (String line : Files.readAllLines(Path.of("README.md"))) {
            Matcher call = CALL.matcher(line);
            if (call.matches()) {
                calls++;
                String due = call.group(3) == null ? "null" : call.group(3);
                String got = answer(chain, call.group(1), numbers(call.group(2)));
                Check.due(line + " answered " + got, got.equals(due) ? 1 : 0, 1);
            }
        }
        Check.due("calls of README.md", calls >= 20 ? 1 : 0, 1);
        Check.end();
    }

    private static Object[] numbers(String list) {
        String[] parts = list.split(",");
        Object[] numbers = new Object[parts.length];
        for (int i = 0; i < parts.length; i++) {
            numbers[i] = Integer.valueOf(parts[i].trim());
        }
        return numbers;
    }

    private static String answer(StakeChain chain, String name, Object[] args) {
        for (Method m : StakeChain.class.getMethods()) {
            if (m.getName().equals(name) && m.getParameterCount() == args.length) {
                try {
                    return String.valueOf(m.invoke(chain, args));
                } catch (InvocationTargetException e) {
                    return e.getCause().getClass().getSimpleName();
                } catch (IllegalAccessException e) {
                    throw new IllegalStateException(e);
                }
            }
        }
        return "no such call";
    }
}
