import java.io.IOException;
import java.lang.reflect.InvocationTargetException;
import java.lang.reflect.Method;
import java.lang.reflect.Modifier;
import java.nio.file.Files;
import java.nio.file.Path;
import java.util.Arrays;
import java.util.Set;
import java.util.TreeSet;
import java.util.regex.Matcher;
import java.util.regex.Pattern;

/** The calls that README.md shows answer what it writes beside them. */
public final class ReadmeTest extends Due {
    private static final Pattern SHOWN =
            Pattern.compile("x\\.(\\w+)\\(([^)]*)\\); *// ([-\\w]+):.*");

    public static void main(String[] args) throws IOException {
        RankRows x = new RankRows();
        Set<String> shown = new TreeSet<>();
        for (String line : Files.readAllLines(Path.of("README.md"))) {
            Matcher call = SHOWN.matcher(line);
            if (call.matches()) {
                shown.add(call.group(1));
                dueAsShown(line, answer(x, call.group(1), numbers(call.group(2))), call.group(3));
            } else if (line.startsWith("x.")) {
                tell("no answer beside: " + line);
            }
        }
        dueEachMethod(shown);
        end("readme");
    }

    private static void dueAsShown(String line, String got, String want) {
        if (!got.equals(want)) {
            tell("answered " + got + ": " + line);
        }
    }

    private static void dueEachMethod(Set<String> shown) {
        for (Method method : RankRows.class.getDeclaredMethods()) {
            if (Modifier.isPublic(method.getModifiers())
                    && !shown.contains(method.getName())) {
                tell("not shown: " + method.getName());
            }
        }
    }

    private static Object[] numbers(String written) {
        String[] parts = written.isEmpty() ? new String[0] : written.split(", ");
        Object[] numbers = new Object[parts.length];
        for (int i = 0; i < parts.length; i++) {
            numbers[i] = Integer.valueOf(parts[i]);
        }
        return numbers;
    }

    private static String answer(RankRows x, String name, Object[] numbers) {
        Class<?>[] types = new Class<?>[numbers.length];
        Arrays.fill(types, int.class);
        try {
            return RankRows.class.getMethod(name, types).invoke(x, numbers).toString();
        } catch (InvocationTargetException e) {
            return e.getCause().getClass().getSimpleName();
        } catch (ReflectiveOperationException e) {
            return "no such call";
        }
    }
}
