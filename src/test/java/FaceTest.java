import java.lang.reflect.Constructor;
import java.lang.reflect.Field;
import java.lang.reflect.Method;
import java.lang.reflect.Modifier;
import java.util.Arrays;
import java.util.TreeSet;
import java.util.stream.Collectors;
import java.util.stream.Stream;

/** The public face of the document, and that there is no other. */
public final class FaceTest {
    private static final String INDEX = "IndexOutOfBoundsException";
    private static final String ARGUMENT = "IllegalArgumentException";
    private static final String STATE = "IllegalStateException";

    private static final String[] FACE = {
        "int book(int, int) " + INDEX + " " + ARGUMENT + " " + STATE,
        "int unbook(int) " + INDEX + " " + STATE,
        "int set(int, int) " + INDEX + " " + ARGUMENT,
        "int pass(int) " + ARGUMENT + " " + STATE,
        "int inspect(int, int, int, int) " + INDEX + " " + ARGUMENT + " " + STATE,
        "int fix(int, int, int, int) " + INDEX + " " + STATE,
        "int claim(int, int, int, int, int) " + INDEX + " " + ARGUMENT + " " + STATE,
        "int release(int, int) " + INDEX + " " + STATE,
        "int append(int) " + ARGUMENT + " " + STATE,
        "int clearBuffer() ",
        "int firstError(boolean) ",
        "int addHouse() " + ARGUMENT + " " + STATE,
        "int setWinds() " + ARGUMENT + " " + STATE,
        "int undo() " + STATE,
        "int house(int, int) " + INDEX + " " + ARGUMENT,
        "int module(int, int, int) " + INDEX + " " + ARGUMENT,
        "int share(int, int, int, int) " + INDEX + " " + ARGUMENT,
        "int trade(int, int) " + INDEX + " " + ARGUMENT,
        "int day(int, int) " + ARGUMENT,
        "int count(int) " + ARGUMENT,
        "int setting(int) " + INDEX,
        "int ends() ",
        "int bestDay(int) " + INDEX,
        "int ifPassed(int, int) " + INDEX + " " + ARGUMENT,
        "int worstTrade() ",
        "double heldShare() ",
        "long digest() ",
    };

    public static void main(String[] args) {
        face();
        Script.close();
    }

    private static void face() {
        Class<?> type = ModuleYard.class;
        Script.due("face", "the class", Modifier.toString(type.getModifiers()), "public final");
        Script.due("face", "its package", type.getPackageName(), "");
        Script.due("face", "its superclass", type.getSuperclass(), Object.class);
        Constructor<?>[] constructors = type.getDeclaredConstructors();
        Script.due("face", "constructors", constructors.length, 1);
        Script.due("face", "constructor", constructors[0].toString(), "public ModuleYard()");
        TreeSet<String> methods = new TreeSet<>();
        TreeSet<String> names = new TreeSet<>();
        for (Method method : type.getDeclaredMethods()) {
            if (!Modifier.isPrivate(method.getModifiers())) {
                methods.add(Modifier.toString(method.getModifiers()) + " " + written(method));
                names.add(method.getName());
            }
        }
        TreeSet<String> due = Stream.of(FACE).map(text -> "public " + text).collect(Collectors.toCollection(TreeSet::new));
        Script.due("face", "methods", methods, due);
        for (Method method : type.getDeclaredMethods()) {
            boolean isPrivate = Modifier.isPrivate(method.getModifiers());
            Script.due("rule 1", "the name of " + method, isPrivate && names.contains(method.getName()), false);
        }
        for (Field field : type.getDeclaredFields()) {
            boolean isOpen = !Modifier.isPrivate(field.getModifiers());
            Script.due("rule 1", "field " + field.getName(), isOpen, field.getName().equals("NONE"));
            Script.due("rule 5", "static field " + field.getName(),
                    Modifier.isStatic(field.getModifiers()) && !Modifier.isFinal(field.getModifiers()), false);
        }
        Script.due("face", "NONE", ModuleYard.NONE, -1);
    }

    private static String written(Method method) {
        String types = Arrays.stream(method.getParameterTypes()).map(Class::getSimpleName).collect(Collectors.joining(", "));
        String thrown = Arrays.stream(method.getExceptionTypes()).map(Class::getSimpleName).collect(Collectors.joining(" "));
        return method.getReturnType().getSimpleName() + " " + method.getName() + "(" + types + ") " + thrown;
    }
}
