import java.io.IOException;
import java.lang.reflect.Field;
import java.lang.reflect.Method;
import java.lang.reflect.Modifier;
import java.nio.file.Files;
import java.nio.file.Path;
import java.util.regex.Matcher;
import java.util.regex.Pattern;

/** README.md: the answers of its example, and that it names the whole face. Run where README.md is. */
final class ReadmeTest {
    private static final Pattern CALL = Pattern.compile("x\\.(\\w+)\\(([-\\d, ]*)\\);\\s+// (-?[\\d.]+), .*");

    public static void main(String[] args) throws IOException, ReflectiveOperationException {
        String page = Files.readString(Path.of("README.md"));
        example(page);
        methods(page);
        constants(page);
        Checks.holds("README.md tells of 512 calls", page.contains("512 calls"));
        Checks.holds("README.md tells of .ci/run", page.contains("    .ci/run\n"));
        Checks.end();
    }

    private static void example(String page) throws ReflectiveOperationException {
        int from = page.indexOf("```java\n");
        int to = page.indexOf("```", from + 3);
        Checks.holds("README.md has an example", from >= 0 && to > from);
        WordGroups x = new WordGroups();
        int calls = 0;
        for (String line : page.substring(from, to).split("\n")) {
            Matcher call = CALL.matcher(line);
            if (call.matches()) {
                Checks.sameText(line, answer(x, call.group(1), call.group(2)), call.group(3));
                calls++;
            } else {
                Checks.holds("a line that is no call: " + line, !line.startsWith("x."));
            }
        }
        Checks.holds("the example has calls", calls > 0);
    }

    private static String answer(WordGroups x, String name, String list) throws ReflectiveOperationException {
        String[] parts = list.isEmpty() ? new String[0] : list.split(", ");
        Class<?>[] types = new Class<?>[parts.length];
        Object[] numbers = new Object[parts.length];
        for (int k = 0; k < parts.length; k++) {
            types[k] = int.class;
            numbers[k] = Integer.valueOf(parts[k]);
        }
        return String.valueOf(WordGroups.class.getMethod(name, types).invoke(x, numbers));
    }

    private static void methods(String page) {
        for (Method method : WordGroups.class.getDeclaredMethods()) {
            if (Modifier.isPublic(method.getModifiers())) {
                Checks.holds("README.md tells what " + method.getName() + " is for",
                    page.contains("`" + method.getName() + "("));
            }
        }
    }

    private static void constants(String page) throws ReflectiveOperationException {
        for (Field field : WordGroups.class.getFields()) {
            String row = "| `" + field.getName() + "` | " + field.getInt(null) + " | ";
            Checks.holds("README.md tells what " + field.getName() + " means", page.contains(row));
        }
    }
}
