import java.io.IOException;
import java.lang.reflect.Method;
import java.lang.reflect.Modifier;
import java.nio.file.Files;
import java.nio.file.Path;
import java.util.HashMap;
import java.util.Map;
import java.util.regex.Matcher;
import java.util.regex.Pattern;

/** What README.md says of the class is so: its example's lines are run as they stand there. */
public final class ReadmeTest {
    private static final Pattern CALL = Pattern.compile(
        "(?:int (?<name>\\w+) = )?bars\\.(?<method>\\w+)\\((?<args>[^()]*)\\); *// answers (?<due>-?[0-9]+)\\b.*");
    private static final int LEAST_CALLS = 33;

    private final BarMeasure bars = new BarMeasure();
    private final Map<String, Integer> names = new HashMap<>();
    private int calls = 0;

    public static void main(String[] args) throws IOException, ReflectiveOperationException {
        String readme = Files.readString(Path.of("README.md"));
        new ReadmeTest().runExample(readme);
        checkRows(readme);
        checkRefusals(readme);
        Due.end();
    }

    private void runExample(String readme) throws ReflectiveOperationException {
        Matcher block = Pattern.compile("(?s)```java\nBarMeasure bars = new BarMeasure\\(\\);\n(.*?)```").matcher(readme);
        if (!block.find()) {
            Due.tell("README.md has no example that makes a BarMeasure");
            return;
        }
        for (String line : block.group(1).split("\n")) {
            if (!line.isBlank() && !line.startsWith("//")) {
                runLine(line);
            }
        }
        if (calls < LEAST_CALLS) {
            Due.tell("README.md's example has " + calls + " calls");
        }
    }

    private void runLine(String line) throws ReflectiveOperationException {
        Matcher call = CALL.matcher(line);
        if (!call.matches()) {
            Due.tell("README.md's example has a line that can't be tried: " + line);
            return;
        }
        calls++;
        long got = answer(call.group("method"), call.group("args"));
        Due.is("README.md's " + line.substring(0, line.indexOf(';')), got, Long.parseLong(call.group("due")));
        if (call.group("name") != null) {
            names.put(call.group("name"), (int) got);
        }
    }

    private long answer(String name, String written) throws ReflectiveOperationException {
        String[] words = written.isEmpty() ? new String[0] : written.split(", ");
        Object[] numbers = new Object[words.length];
        for (int i = 0; i < words.length; i++) {
            numbers[i] = names.containsKey(words[i]) ? names.get(words[i]) : Integer.valueOf(words[i]);
        }
        for (Method method : BarMeasure.class.getMethods()) {
            if (method.getName().equals(name) && method.getDeclaringClass() == BarMeasure.class) {
                return ((Number) method.invoke(bars, numbers)).longValue();
            }
        }
        throw new NoSuchMethodException(name);
    }

    private static void checkRows(String readme) {
        for (Method method : BarMeasure.class.getDeclaredMethods()) {
            if (Modifier.isPublic(method.getModifiers()) && !readme.contains("\n| `" + method.getName() + "(")) {
                Due.tell("README.md has no row for " + method.getName());
            }
        }
    }

    private static void checkRefusals(String readme) {
        String[] constants = {
            "`BarMeasure.BAD` (" + BarMeasure.BAD + ")", "`BarMeasure.NO` (" + BarMeasure.NO + ")",
            "`BarMeasure.FULL` (" + BarMeasure.FULL + ")", "`BarMeasure.NONE` (" + BarMeasure.NONE + ")",
        };
        for (String constant : constants) {
            if (!readme.contains(constant)) {
                Due.tell("README.md does not say " + constant);
            }
        }
    }
}
