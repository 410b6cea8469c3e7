import java.io.IOException;
import java.lang.reflect.Field;
import java.lang.reflect.Method;
import java.lang.reflect.Modifier;
import java.nio.file.Files;
import java.nio.file.Path;
import java.util.ArrayList;
import java.util.List;
import java.util.Set;
import java.util.TreeSet;
import java.util.regex.Matcher;
import java.util.regex.Pattern;

/**
 * Rules of LANGUAGE.md that can be read off src/main/java/WordGroups.java, as far as the class needs them: it is
 * told here that it uses less than the rules allow. Run where src is.
 */
final class LanguageTest {
    /** Rules 2, 4, 6, 9, 10 and 13: what the class does without. */
    private static final String[] RULED_OUT = {"->", "::", "\\bimport\\b", "\\bpackage\\b", "\\btry\\b", "\\bcatch\\b",
        "\\bfinally\\b", "\\bthrows?\\b", "\\bsynchronized\\b", "\\bassert\\b", "\\binstanceof\\b", "\\bstatic\\s*\\{",
        "while \\(true\\)", "for \\(;", "\"", "\\bdouble\\b", "\\bjava\\.", "@"};
    /** Rule 4: the functions of Math over int. */
    private static final Set<String> OF_MATH = Set.of("min", "max", "abs", "floorDiv", "floorMod");

    public static void main(String[] args) throws IOException {
        String file = Files.readString(Path.of("src/main/java/WordGroups.java"));
        for (int k = 0; k < file.length(); k++) {
            if (file.charAt(k) > 126) {
                Checks.holds("a sign of the file is from 1 to 126: " + file.charAt(k), false);
            }
        }
        String code = file.replaceAll("(?s)/\\*.*?\\*/", "").replaceAll("//[^\n]*", "");
        for (String part : RULED_OUT) {
            Checks.holds("without " + part, !Pattern.compile(part).matcher(code).find());
        }
        library(code);
        lengths(file);
        List<Class<?>> classes = new ArrayList<>(List.of(WordGroups.class.getDeclaredClasses()));
        classes.add(WordGroups.class);
        Checks.same("rule 11: classes in the file", classes.size(), names(code, "class (\\w+)").size());
        for (Class<?> type : classes) {
            members(type);
        }
        Checks.end();
    }

    private static Set<String> names(String code, String pattern) {
        Set<String> found = new TreeSet<>();
        Matcher matcher = Pattern.compile(pattern).matcher(code);
        while (matcher.find()) {
            found.add(matcher.group(1));
        }
        return found;
    }

    /** Rule 4: every name that begins with a capital is a constant, a class of the file, or Math. */
    private static void library(String code) {
        Set<String> own = names(code, "class (\\w+)");
        for (String name : names(code, "\\b([A-Z]\\w*[a-z]\\w*)\\b")) {
            Checks.holds("rule 4: " + name, own.contains(name) || name.equals("Math"));
        }
        for (String name : names(code, "\\bMath\\.(\\w+)")) {
            Checks.holds("rule 4: Math." + name, OF_MATH.contains(name));
        }
    }

    /** Rule 11: "Methods stay short (some sixty lines)". */
    private static void lengths(String file) {
        String[] lines = file.split("\n");
        for (int k = 0; k < lines.length; k++) {
            boolean begins = lines[k].matches("( {4}| {8})[a-z]\\w*.*\\) \\{")
                && !lines[k].matches(" *(for|if|while|switch) .*");
            if (begins) {
                String end = lines[k].replaceAll("\\S.*", "") + "}";
                int last = k;
                while (last < lines.length && !lines[last].equals(end)) {
                    last++;
                }
                Checks.holds("rule 11: at most 60 lines: " + lines[k].trim(), last - k + 1 <= 60);
            }
        }
    }

    /** Rules 3, 5 and 11: arguments, fields and their types. */
    private static void members(Class<?> type) {
        int fields = 0;
        for (Field field : type.getDeclaredFields()) {
            if (Modifier.isStatic(field.getModifiers())) {
                Checks.holds("rule 5: " + field, field.getType() == int.class);
            } else {
                fields++;
                Class<?> of = field.getType().isArray() ? field.getType().getComponentType() : field.getType();
                Checks.holds("rule 3: " + field, of == int.class || of.getName().startsWith("WordGroups$"));
            }
        }
        Checks.holds("rule 11: at most 20 fields: " + type, fields <= 20);
        for (Method method : type.getDeclaredMethods()) {
            Checks.holds("rule 11: at most 7 arguments: " + method, method.getParameterCount() <= 7);
        }
    }
}
