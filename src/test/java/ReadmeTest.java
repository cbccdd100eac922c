import java.io.IOException;
import java.lang.reflect.Method;
import java.nio.file.Files;
import java.nio.file.Path;
import java.util.List;
import java.util.regex.Matcher;
import java.util.regex.Pattern;

/** README.md: its example answers what it says, and it tells every public method by its face. */
public final class ReadmeTest {
    private static final Pattern CALL = Pattern.compile("c\\.(\\w+)\\(([-0-9, ]*)\\);\\s+// (true|false|-?\\d+).*");
    private static final int LEAST_CALLS = 15;

    public static void main(String[] args) throws IOException, ReflectiveOperationException {
        List<String> lines = Files.readAllLines(Path.of("README.md"));
        exampleAnswersWhatItSays(lines);
        everyMethodIsTold(String.join("\n", lines));
        Checks.end();
    }

    private static void exampleAnswersWhatItSays(List<String> lines) throws ReflectiveOperationException {
        PocketConsole c = new PocketConsole();
        int calls = 0;
        for (String line : lines) {
            if (!line.startsWith("c.")) {
                continue;
            }
            Matcher call = CALL.matcher(line);
            Checks.due("the line is a call with its answer: " + line, call.matches(), true);
            if (call.matches()) {
                calls++;
                String got = String.valueOf(answer(c, call.group(1), call.group(2)));
                Checks.due(line + " .. it answered " + got, got.equals(call.group(3)), true);
            }
        }
        Checks.due("the example has calls", calls >= LEAST_CALLS, true);
    }

    private static Object answer(PocketConsole c, String name, String arguments) throws ReflectiveOperationException {
        String[] texts = arguments.isEmpty() ? new String[0] : arguments.split(", ");
        Class<?>[] types = new Class<?>[texts.length];
        Object[] values = new Object[texts.length];
        for (int i = 0; i < texts.length; i++) {
            types[i] = int.class;
            values[i] = Integer.valueOf(texts[i]);
        }
        return PocketConsole.class.getMethod(name, types).invoke(c, values);
    }

    private static void everyMethodIsTold(String text) {
        for (Method method : PocketConsole.class.getMethods()) {
            if (method.getDeclaringClass() == PocketConsole.class) {
                String start = "| `" + method.getReturnType() + " " + method.getName() + "(";
                Checks.due(start + " is in README.md", text.contains(start), true);
            }
        }
    }
}
