import java.io.IOException;
import java.lang.reflect.Method;
import java.lang.reflect.Modifier;
import java.nio.file.Files;
import java.nio.file.Path;
import java.util.List;
import java.util.regex.Matcher;
import java.util.regex.Pattern;

/** README.md: its example answers what is written behind each call, and every call is told. */
public final class ReadmeTest {
    private static final Path README = Path.of("README.md");
    private static final Pattern CALL = Pattern.compile("x\\.(\\w+)\\((.*)\\); +// (-?\\d+|true|false)\\b.*");

    public static void main(String[] args) throws IOException {
        List<String> lines = Files.readAllLines(README);
        Kit.says("README.md says how to use the class");
        example(lines);
        everyCallIsTold(String.join("\n", lines));
        Kit.finish();
    }

    private static void example(List<String> lines) {
        StuckSearch x = new StuckSearch();
        int calls = 0;
        for (String line : lines) {
            if (line.startsWith("x.")) {
                Matcher call = CALL.matcher(line);
                boolean written = call.matches();
                Kit.due("a call with its answer: " + line, true, () -> written);
                if (written) {
                    calls++;
                    Kit.due(line, call.group(3), () -> answer(x, call.group(1), call.group(2)));
                }
            }
        }
        int found = calls;
        Kit.due("the example is found", true, () -> found > 0);
    }

    private static Object answer(StuckSearch x, String name, String written) {
        String[] numbers = written.isEmpty() ? new String[0] : written.split(", ");
        for (Method method : StuckSearch.class.getMethods()) {
            if (method.getName().equals(name) && method.getParameterCount() == numbers.length) {
                Object[] arguments = new Object[numbers.length];
                for (int i = 0; i < numbers.length; i++) {
                    long number = Long.decode(numbers[i].replace("L", ""));
                    arguments[i] = method.getParameterTypes()[i] == int.class ? (Object) (int) number : (Object) number;
                }
                try {
                    return method.invoke(x, arguments);
                } catch (ReflectiveOperationException e) {
                    return e;
                }
            }
        }
        return "no such call";
    }

    private static void everyCallIsTold(String readme) {
        for (Method method : StuckSearch.class.getDeclaredMethods()) {
            if (Modifier.isPublic(method.getModifiers())) {
                Kit.due(method.getName() + " is told", true, () -> readme.contains("| `" + method.getName() + "("));
            }
        }
    }
}
