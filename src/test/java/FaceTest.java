import java.io.IOException;
import java.lang.reflect.Constructor;
import java.lang.reflect.Field;
import java.lang.reflect.Method;
import java.lang.reflect.Modifier;
import java.nio.charset.StandardCharsets;
import java.nio.file.Files;
import java.nio.file.Path;
import java.util.ArrayList;
import java.util.Arrays;
import java.util.List;
import java.util.TreeSet;
import java.util.regex.Matcher;
import java.util.regex.Pattern;
import java.util.stream.Collectors;
import java.util.stream.Stream;

/** The public face, and the rules of LANGUAGE.md that a test can look at. */
public final class FaceTest {
    private static final String INDEX = "IndexOutOfBoundsException";
    private static final String ARGUMENT = "IllegalArgumentException";
    private static final String STATE = "IllegalStateException";

    private static final String[] FACE = {
        "int book(int, int) " + INDEX + " " + ARGUMENT + " " + STATE,
        "int unbook(int) " + INDEX + " " + STATE,
        "int set(int, int) " + INDEX + " " + ARGUMENT,
        "int pass(int) " + ARGUMENT + " " + STATE,
        "int inspect(int, int, int, int) " + INDEX + " " + ARGUMENT + " " + STATE,
        "int fix(int, int, int, int) " + INDEX + " " + STATE,
        "int claim(int, int, int, int, int) " + INDEX + " " + ARGUMENT + " " + STATE,
        "int release(int, int) " + INDEX + " " + STATE,
        "int append(int) " + ARGUMENT + " " + STATE,
        "int clearBuffer() ",
        "int firstError(boolean) ",
        "int addHouse() " + ARGUMENT + " " + STATE,
        "int setWinds() " + ARGUMENT + " " + STATE,
        "int undo() " + STATE,
        "int house(int, int) " + INDEX + " " + ARGUMENT,
        "int module(int, int, int) " + INDEX + " " + ARGUMENT,
        "int share(int, int, int, int) " + INDEX + " " + ARGUMENT,
        "int trade(int, int) " + INDEX + " " + ARGUMENT,
        "int day(int, int) " + ARGUMENT,
        "int count(int) " + ARGUMENT,
        "int setting(int) " + INDEX,
        "int ends() ",
        "int bestDay(int) " + INDEX,
        "int ifPassed(int, int) " + INDEX + " " + ARGUMENT,
        "int worstTrade() ",
        "double heldShare() ",
        "long digest() ",
    };

    private static final String[] RULED_OUT = {
        "->", "::", "\\bcatch\\b", "\\bfinally\\b", "\\bsynchronized\\b", "\\bassert\\b", "Exact\\(", "^package ",
        "static \\{", "\\bObject\\b", "\\bSystem\\.(?!arraycopy)", "\\bDouble\\b", "\\bString\\.", "\\bvar\\b",
        "^import (?!java\\.util\\.Arrays;)", "\\bThread\\b", "\\bRandom\\b", "\\bequals\\(", "\\bhashCode\\(", "\\btoString\\(",
        "while \\(true\\)", "for \\(;;\\)", "\\[\\]\\[\\]\\[\\]",
    };

    private static final int MOST_LINES = 60;
    private static final int MOST_CLASSES = 12;
    private static final int MOST_FIELDS = 20;
    private static final int MOST_PARAMETERS = 7;

    public static void main(String[] args) throws IOException {
        face();
        insideClasses();
        source(Files.readString(Path.of("src/main/java/ModuleYard.java"), StandardCharsets.ISO_8859_1));
        Script.close();
    }

    private static void face() {
        Class<?> type = ModuleYard.class;
        Script.due("face", "the class", Modifier.toString(type.getModifiers()), "public final");
        Script.due("face", "its package", type.getPackageName(), "");
        Script.due("face", "its superclass", type.getSuperclass(), Object.class);
        Constructor<?>[] constructors = type.getDeclaredConstructors();
        Script.due("face", "constructors", constructors.length, 1);
        Script.due("face", "constructor", constructors[0].toString(), "public ModuleYard()");
        TreeSet<String> methods = new TreeSet<>();
        TreeSet<String> names = new TreeSet<>();
        for (Method method : type.getDeclaredMethods()) {
            if (!Modifier.isPrivate(method.getModifiers())) {
                methods.add(Modifier.toString(method.getModifiers()) + " " + written(method));
                names.add(method.getName());
            }
        }
        TreeSet<String> due = Stream.of(FACE).map(text -> "public " + text).collect(Collectors.toCollection(TreeSet::new));
        Script.due("face", "methods", methods, due);
        for (Method method : type.getDeclaredMethods()) {
            boolean isPrivate = Modifier.isPrivate(method.getModifiers());
            Script.due("rule 1", "the name of " + method, isPrivate && names.contains(method.getName()), false);
        }
        for (Field field : type.getDeclaredFields()) {
            boolean isOpen = !Modifier.isPrivate(field.getModifiers());
            Script.due("rule 1", "field " + field.getName(), isOpen, field.getName().equals("NONE"));
            Script.due("rule 5", "static field " + field.getName(),
                    Modifier.isStatic(field.getModifiers()) && !Modifier.isFinal(field.getModifiers()), false);
        }
        Script.due("face", "NONE", ModuleYard.NONE, -1);
    }

    private static String written(Method method) {
        String types = Arrays.stream(method.getParameterTypes()).map(Class::getSimpleName).collect(Collectors.joining(", "));
        String thrown = Arrays.stream(method.getExceptionTypes()).map(Class::getSimpleName).collect(Collectors.joining(" "));
        return method.getReturnType().getSimpleName() + " " + method.getName() + "(" + types + ") " + thrown;
    }

    private static void insideClasses() {
        List<Class<?>> all = new ArrayList<>(List.of(ModuleYard.class));
        for (Class<?> type : ModuleYard.class.getDeclaredClasses()) {
            all.add(type);
            int open = type.getModifiers() & (Modifier.PUBLIC | Modifier.PROTECTED);
            Script.due("rule 1", "an open " + type, open, 0);
            Script.due("rule 1", "a static " + type, Modifier.isStatic(type.getModifiers()), true);
        }
        Script.due("rule 11", "too many classes", all.size() > MOST_CLASSES, false);
        for (Class<?> type : all) {
            long fields = Stream.of(type.getDeclaredFields()).filter(field -> !Modifier.isStatic(field.getModifiers())).count();
            Script.due("rule 11", "too many fields in " + type, fields > MOST_FIELDS, false);
            for (Method method : type.getDeclaredMethods()) {
                Script.due("rule 11", "too many parameters of " + method, method.getParameterCount() > MOST_PARAMETERS, false);
            }
        }
    }

    private static void source(String text) {
        Script.due("rule 3", "another sign than those of 1 to 126", text.chars().anyMatch(sign -> sign > 126), false);
        for (String ruledOut : RULED_OUT) {
            Matcher matcher = Pattern.compile(ruledOut, Pattern.MULTILINE).matcher(text);
            Script.due("rules", "a place with " + ruledOut, matcher.find() ? matcher.start() : -1, -1);
        }
        Matcher thrown = Pattern.compile("throw ").matcher(text);
        Matcher rightly = Pattern.compile("throw new (" + INDEX + "|" + ARGUMENT + "|" + STATE + ")\\(\"[ -~]*\"\\);").matcher(text);
        Script.due("rule 6", "throws", thrown.results().count(), rightly.results().count());
        methodLengths(text.split("\n"));
    }

    /** A method begins with a line that is indented by 4 or 8 and ends in a brace. */
    private static void methodLengths(String[] lines) {
        Pattern head = Pattern.compile("( {4}| {8})(?! |class|private static final class)[^=;]*\\).*\\{");
        for (int i = 0; i < lines.length; i++) {
            Matcher matcher = head.matcher(lines[i]);
            if (!matcher.matches()) {
                continue;
            }
            int end = i;
            while (end < lines.length - 1 && !lines[end].equals(matcher.group(1) + "}")) {
                end++;
            }
            Script.due("rule 11", "too long from line " + (i + 1), end - i + 1 > MOST_LINES, false);
        }
    }
}
