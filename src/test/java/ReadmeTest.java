import java.lang.reflect.Method;
import java.lang.reflect.Modifier;
import java.nio.file.Files;
import java.nio.file.Path;
import java.util.regex.Matcher;
import java.util.regex.Pattern;

/** README.md names every call as it is made, and its example answers as it says. */
final class ReadmeTest {
    private static final Pattern CALL = Pattern.compile("(?m)^x\\.(\\w+)\\((.*)\\);\\s*// (-?\\d+): ");
    private static final Check check = new Check();

    private final RavenSupper x = new RavenSupper();

    public static void main(String[] args) throws Exception {
        String page = Files.readString(Path.of("README.md"));
        everyCallIsNamed(page);
        new ReadmeTest().exampleAnswersSo(page);
        check.end();
    }

    private static void everyCallIsNamed(String page) {
        for (Method m : RavenSupper.class.getDeclaredMethods()) {
            if (Modifier.isPublic(m.getModifiers())) {
                Matcher row = Pattern.compile("(?m)^\\| `" + m.getName() + "\\((.*?)\\)` \\| \\S").matcher(page);
                boolean named = row.find();
                check.due("README.md tells what " + m.getName() + " answers", named ? 1 : 0, 1);
                check.due("arguments of " + m.getName(), named ? argumentsOf(row.group(1)).length : -1, m.getParameterCount());
            }
        }
    }

    private static String[] argumentsOf(String told) {
        return told.isEmpty() ? new String[0] : told.split(", ");
    }

    private void exampleAnswersSo(String page) throws Exception {
        int from = page.indexOf("```java");
        Matcher line = CALL.matcher(page.substring(from, page.indexOf("```", from + 3)));
        int calls = 0;
        while (line.find()) {
            calls++;
            check.due(line.group(), call(line.group(1), argumentsOf(line.group(2))), Long.parseLong(line.group(3)));
        }
        check.due("there is an example", calls > 0 ? 1 : 0, 1);
    }

    private long call(String name, String[] told) throws Exception {
        for (Method m : RavenSupper.class.getDeclaredMethods()) {
            if (m.getName().equals(name) && m.getParameterCount() == told.length) {
                Object[] args = new Object[told.length];
                for (int i = 0; i < told.length; i++) {
                    args[i] = read(told[i], m.getParameterTypes()[i]);
                }
                return ((Number) m.invoke(x, args)).longValue();
            }
        }
        throw new IllegalStateException("README.md makes a call that there is none of: " + name);
    }

    private static Object read(String argument, Class<?> type) {
        if (type == boolean.class) {
            return Boolean.valueOf(argument);
        }
        return Integer.valueOf(argument);
    }
}
