import java.io.IOException;
import java.lang.reflect.Method;
import java.nio.file.Files;
import java.nio.file.Path;
import java.util.HashMap;
import java.util.Map;
import java.util.regex.Matcher;
import java.util.regex.Pattern;

/** Calls what the example in README.md calls, line by line: each call answers what README.md tells behind it. */
public final class ReadmeTest {
    private static final Pattern EXAMPLE = Pattern.compile("(?s)```java\n(.*?)```");
    private static final Pattern LINE =
            Pattern.compile("(?:int (\\w+) = )?pool\\.(\\w+)\\((.*?)\\);\\s*(?://\\s*(.*))?");
    private static final Pattern TOLD = Pattern.compile("answers ([^:]+)(:.*)?");
    private static final String MADE = "BobbinPool pool = new BobbinPool();";

    private final BobbinPool pool = new BobbinPool();
    private final Map<String, Integer> variables = new HashMap<>();
    private int answers;

    public static void main(String[] args) throws IOException, ReflectiveOperationException {
        Matcher example = EXAMPLE.matcher(Files.readString(Path.of("README.md")));
        Due.is("README.md has an example", example.find() ? 1 : 0, 1);
        ReadmeTest run = new ReadmeTest();
        for (String line : example.group(1).split("\n")) {
            run.call(line.trim());
        }
        Due.is("README.md tells some answers", run.answers > 0 ? 1 : 0, 1);
        Due.end();
    }

    private void call(String line) throws ReflectiveOperationException {
        if (line.equals(MADE)) {
            return;
        }
        Matcher call = LINE.matcher(line);
        if (!call.matches()) {
            Due.is("README.md: a call is read from " + line, 0, 1);
            return;
        }
        Object answer = answer(call.group(2), call.group(3));
        if (call.group(1) != null) {
            variables.put(call.group(1), (Integer) answer);
        }
        Matcher told = TOLD.matcher(call.group(4) == null ? "" : call.group(4));
        if (told.matches()) {
            answers++;
            Due.is("README.md: " + line + " answered " + answer, told.group(1).equals(answer.toString()) ? 1 : 0, 1);
        }
    }

    private Object answer(String name, String written) throws ReflectiveOperationException {
        String[] words = written.isEmpty() ? new String[0] : written.split(", ");
        Class<?>[] types = new Class<?>[words.length];
        Object[] values = new Object[words.length];
        for (int i = 0; i < words.length; i++) {
            types[i] = int.class;
            values[i] = variables.containsKey(words[i]) ? variables.get(words[i]) : Integer.valueOf(words[i]);
        }
        Method method = BobbinPool.class.getMethod(name, types);
        return method.invoke(pool, values);
    }
}
