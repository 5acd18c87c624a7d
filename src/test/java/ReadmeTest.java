import java.io.IOException;
import java.lang.reflect.InvocationTargetException;
import java.lang.reflect.Method;
import java.lang.reflect.Modifier;
import java.nio.file.Files;
import java.nio.file.Path;
import java.util.Arrays;
import java.util.regex.Matcher;
import java.util.regex.Pattern;

/** README.md must not tell of a class that is not there: its example is played, and each call must be named. */
public final class ReadmeTest {
    private static final Pattern EXAMPLE = Pattern.compile("(?s)```java\n(.*?)```");
    private static final Pattern MADE = Pattern.compile("new WindowCache\\((.*?)\\);");
    private static final Pattern CALL = Pattern.compile("cache\\.(\\w+)\\((.*?)\\); *// (.*)");

    public static void main(String[] args) throws IOException, IllegalAccessException {
        Sheet.ask("README.md");
        String readme = Files.readString(Path.of("README.md"));
        Matcher example = EXAMPLE.matcher(readme);
        if (example.find()) {
            play(example.group(1));
        } else {
            Sheet.fault("there is no example");
        }
        for (Method method : WindowCache.class.getDeclaredMethods()) {
            if (Modifier.isPublic(method.getModifiers()) && !readme.contains("| `" + method.getName() + "(")) {
                Sheet.fault(method.getName() + " has no row among the calls");
            }
        }
        Sheet.close();
    }

    private static void play(String example) throws IllegalAccessException {
        WindowCache cache = null;
        for (String line : example.split("\n")) {
            Matcher made = MADE.matcher(line);
            Matcher call = CALL.matcher(line);
            if (made.find()) {
                int[] given = numbers(made.group(1));
                cache = new WindowCache(given[0], given[1], given[2]);
            } else if (call.matches()) {
                String answer = answer(cache, call.group(1), numbers(call.group(2)));
                if (!call.group(3).matches(Pattern.quote(answer) + "(:.*)?")) {
                    Sheet.fault(line + ": the answer is " + answer);
                }
            } else {
                Sheet.fault(line + ": neither the making of a cache nor a call with its answer");
            }
        }
    }

    private static int[] numbers(String row) {
        return row.isEmpty() ? new int[0] : Arrays.stream(row.split(", ")).mapToInt(Integer::parseInt).toArray();
    }

    private static String answer(WindowCache cache, String name, int[] given) throws IllegalAccessException {
        for (Method method : WindowCache.class.getDeclaredMethods()) {
            if (method.getName().equals(name) && method.getParameterCount() == given.length) {
                try {
                    Object got = method.invoke(cache, Arrays.stream(given).boxed().toArray());
                    return got == null ? "nothing" : got.toString();
                } catch (InvocationTargetException e) {
                    return "throws " + e.getCause().getClass().getSimpleName();
                }
            }
        }
        return "no such call";
    }
}
