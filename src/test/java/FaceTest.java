import java.lang.reflect.Constructor;
import java.lang.reflect.Field;
import java.lang.reflect.Method;
import java.lang.reflect.Modifier;
import java.util.Arrays;
import java.util.Set;
import java.util.TreeSet;

/** The public face of the document, and rules 1 and 5 of LANGUAGE.md as far as reflection tells them. */
final class FaceTest {
    private static final Set<String> FACE = new TreeSet<>(Arrays.asList(
        "int write(int)", "int wipe()", "int spell(int)", "int type()", "int clear()", "int insert(int)",
        "int remove()", "int weigh(int)", "int rebuild()", "int undo()", "int told(int)", "int word(int,int)",
        "int group(int,int,int)", "int item(int,int,int,int)", "int follow(int,int,int)", "int at(int,int)",
        "int total(int)", "int find(int,int)", "float mean()", "int keep(int)", "int back(int)"));
    private static final Set<String> CONSTANTS = new TreeSet<>(Arrays.asList("BAD", "STATE", "FULL", "NONE"));

    public static void main(String[] args) {
        Class<?> type = WordGroups.class;
        Checks.holds("public", Modifier.isPublic(type.getModifiers()));
        Checks.holds("final", Modifier.isFinal(type.getModifiers()));
        methods(type);
        fields(type);
        Constructor<?>[] constructors = type.getDeclaredConstructors();
        Checks.same("constructors", constructors.length, 1);
        Checks.holds("the constructor is public", Modifier.isPublic(constructors[0].getModifiers()));
        Checks.same("arguments of the constructor", constructors[0].getParameterCount(), 0);
        inside(type);
        Checks.end();
    }

    private static String signature(Method method) {
        String arguments = Arrays.toString(method.getParameterTypes()).replaceAll("[\\[\\] ]", "");
        return method.getReturnType() + " " + method.getName() + "(" + arguments + ")";
    }

    private static void methods(Class<?> type) {
        Set<String> names = new TreeSet<>();
        Set<String> face = new TreeSet<>();
        for (Method method : type.getDeclaredMethods()) {
            if (!Modifier.isPrivate(method.getModifiers())) {
                Checks.holds(method + " is public, not static", method.getModifiers() == Modifier.PUBLIC);
                face.add(signature(method));
                names.add(method.getName());
            }
        }
        Checks.holds("the methods are those of the document: " + face, face.equals(FACE));
        for (Method method : type.getDeclaredMethods()) {
            Checks.holds(method + " has a name of its own",
                Modifier.isPublic(method.getModifiers()) || !names.contains(method.getName()));
        }
    }

    private static void fields(Class<?> type) {
        Set<String> constants = new TreeSet<>();
        for (Field field : type.getDeclaredFields()) {
            int modifiers = field.getModifiers();
            if (!Modifier.isPrivate(modifiers)) {
                constants.add(field.getName());
                Checks.holds(field + " is a public constant of int", field.getType() == int.class
                    && modifiers == (Modifier.PUBLIC | Modifier.STATIC | Modifier.FINAL));
            }
            Checks.holds(field + " is no static state", !Modifier.isStatic(modifiers) || Modifier.isFinal(modifiers));
        }
        Checks.holds("the constants are those of the document: " + constants, constants.equals(CONSTANTS));
    }

    private static void inside(Class<?> type) {
        Checks.holds("at most 12 classes", type.getDeclaredClasses().length <= 11);
        for (Class<?> part : type.getDeclaredClasses()) {
            int modifiers = part.getModifiers();
            Checks.holds(part + " is static", Modifier.isStatic(modifiers));
            Checks.holds(part + " is not public", !Modifier.isPublic(modifiers) && !Modifier.isProtected(modifiers));
            for (Field field : part.getDeclaredFields()) {
                Checks.holds(field + " is no static state",
                    !Modifier.isStatic(field.getModifiers()) || Modifier.isFinal(field.getModifiers()));
            }
        }
    }
}
