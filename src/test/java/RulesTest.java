import java.io.IOException;
import java.lang.reflect.Array;
import java.lang.reflect.Field;
import java.lang.reflect.Method;
import java.lang.reflect.Modifier;
import java.nio.charset.StandardCharsets;
import java.nio.file.Files;
import java.nio.file.Path;
import java.util.ArrayList;
import java.util.IdentityHashMap;
import java.util.List;
import java.util.Map;
import java.util.TreeMap;
import java.util.TreeSet;
import java.util.regex.Matcher;
import java.util.regex.Pattern;
import java.util.stream.Stream;

/** The rules of LANGUAGE.md that a test can look at, in the source and in an object. */
public final class RulesTest {
    private static final String[] RULED_OUT = {
        "->", "::", "\\bcatch\\b", "\\bfinally\\b", "\\bsynchronized\\b", "\\bassert\\b", "Exact\\(", "^package ",
        "static \\{", "\\bObject\\b", "\\bDouble\\b", "\\bString\\.", "\\bvar\\b", "\\binstanceof\\b",
        "^import (?!java\\.util\\.Arrays;)", "\\bequals\\(", "\\bhashCode\\(", "\\btoString\\(",
        "while \\(true\\)", "for \\(;;\\)", "\\[\\]\\[\\]",
    };
    private static final TreeSet<String> LIBRARY = new TreeSet<>(List.of(
            "Math.min", "Math.max", "Math.abs", "System.arraycopy", "Arrays.fill", "Arrays.copyOf", "Arrays.copyOfRange"));
    private static final Pattern THROWN = Pattern.compile(
            "throw new (IndexOutOfBoundsException|IllegalArgumentException|IllegalStateException)\\(\"[ -~]*\"\\);");
    private static final Pattern HEAD = Pattern.compile("( {4}| {8})(?! )(?:[\\w\\[\\]]+ )*(\\w+)\\([^()]*\\)[^=;(]*\\{");

    private static final int MOST_LINES = 60;
    private static final int MOST_CLASSES = 12;
    private static final int MOST_FIELDS = 20;
    private static final int MOST_PARAMETERS = 7;
    private static final int MOST_DEEP = 8;
    // Half of the room of all calls of one run.
    private static final int MOST_OBJECTS = 300_000;
    private static final int MOST_ELEMENTS = 3_650_000;

    public static void main(String[] args) throws IOException {
        String text = Files.readString(Path.of("src/main/java/ModuleYard.java"), StandardCharsets.ISO_8859_1);
        insideClasses();
        source(text);
        Map<String, String> bodies = bodies(text.split("\n"));
        Script.due("rules", "too few methods were found in the source", bodies.size() < 80, false);
        objects(bodies);
        depths(bodies);
        room();
        Script.close();
    }

    private static void insideClasses() {
        List<Class<?>> all = new ArrayList<>(List.of(ModuleYard.class));
        for (Class<?> type : ModuleYard.class.getDeclaredClasses()) {
            all.add(type);
            int open = type.getModifiers() & (Modifier.PUBLIC | Modifier.PROTECTED);
            Script.due("rule 1", "an open " + type, open, 0);
            Script.due("rule 1", "a static " + type, Modifier.isStatic(type.getModifiers()), true);
        }
        Script.due("rule 11", "too many classes", all.size() > MOST_CLASSES, false);
        for (Class<?> type : all) {
            long fields = Stream.of(type.getDeclaredFields()).filter(field -> !Modifier.isStatic(field.getModifiers())).count();
            Script.due("rule 11", "too many fields in " + type, fields > MOST_FIELDS, false);
            for (Method method : type.getDeclaredMethods()) {
                Script.due("rule 11", "too many parameters of " + method, method.getParameterCount() > MOST_PARAMETERS, false);
            }
        }
    }

    private static void source(String text) {
        Script.due("rule 3", "another sign than those of 1 to 126", text.chars().anyMatch(sign -> sign > 126), false);
        for (String ruledOut : RULED_OUT) {
            Matcher matcher = Pattern.compile(ruledOut, Pattern.MULTILINE).matcher(text);
            Script.due("rules", "a place with " + ruledOut, matcher.find() ? matcher.start() : -1, -1);
        }
        Matcher library = Pattern.compile("\\b(?:[A-Z]\\w*[a-z]\\w*)\\.[a-z]\\w*").matcher(text.replaceAll("//.*|import .*", ""));
        while (library.find()) {
            Script.due("rule 4", library.group(), LIBRARY.contains(library.group()), true);
        }
        Script.due("rule 6", "throws", Pattern.compile("throw ").matcher(text).results().count(), THROWN.matcher(text).results().count());
    }

    /** The lines of each method, by its name; those of the same name together. */
    private static Map<String, String> bodies(String[] lines) {
        Map<String, String> bodies = new TreeMap<>();
        for (int i = 0; i < lines.length; i++) {
            Matcher matcher = HEAD.matcher(lines[i]);
            if (!matcher.matches()) {
                continue;
            }
            StringBuilder body = new StringBuilder();
            int end = i + 1;
            while (end < lines.length - 1 && !lines[end].equals(matcher.group(1) + "}")) {
                body.append(lines[end].replaceAll("//.*|\"[^\"]*\"", "")).append('\n');
                end++;
            }
            Script.due("rule 11", "too long from line " + (i + 1), end - i + 1 > MOST_LINES, false);
            bodies.merge(matcher.group(2), body.toString(), String::concat);
        }
        return bodies;
    }

    /** What is kept is made in constructors and fields; a call makes its exception alone. */
    private static void objects(Map<String, String> bodies) {
        for (Map.Entry<String, String> method : bodies.entrySet()) {
            boolean isConstructor = Character.isUpperCase(method.getKey().charAt(0));
            Matcher made = Pattern.compile("\\bnew (?!\\w+Exception\\()|\\bclone\\(").matcher(method.getValue());
            Script.due("rule 12", method.getKey() + " makes objects", made.find() && !isConstructor, false);
            boolean throwsIt = method.getValue().contains("throw ");
            Script.due("rule 6", method.getKey() + " throws", throwsIt && isConstructor, false);
        }
    }

    private static void depths(Map<String, String> bodies) {
        Map<String, Integer> known = new TreeMap<>();
        for (String name : bodies.keySet()) {
            int depth = depth(name, bodies, known);
            Script.due("rule 11", "how deep " + name + " goes: " + depth, depth > MOST_DEEP, false);
        }
        Script.due("rules", "too few calls were found in the source", known.get("digest") < 5, false);
    }

    /** A method that calls itself, be it by another one, is as deep as can be. */
    private static int depth(String name, Map<String, String> bodies, Map<String, Integer> known) {
        if (known.containsKey(name)) {
            return known.get(name);
        }
        known.put(name, 1000);
        int deepest = 0;
        Matcher call = Pattern.compile("(?<!new )\\b(\\w+)\\(").matcher(bodies.get(name));
        while (call.find()) {
            if (bodies.containsKey(call.group(1))) {
                deepest = Math.max(deepest, depth(call.group(1), bodies, known));
            }
        }
        known.put(name, deepest + 1);
        return deepest + 1;
    }

    /** An object is as large as before, whatever was called. */
    private static void room() {
        ModuleYard yard = new ModuleYard();
        int[] before = size(yard);
        Script.due("room", "too many objects: " + before[0], before[0] > MOST_OBJECTS, false);
        Script.due("room", "too many elements: " + before[1], before[1] > MOST_ELEMENTS, false);
        for (int house = 0; house < 6; house++) {
            Script.type(yard, "1:9999,2:9999,3:9999,1:9999,2:9999,3:9999");
            yard.addHouse();
        }
        Script.type(yard, "9*60");
        yard.setWinds();
        for (int i = 0; i < 36; i++) {
            yard.book(i % 6, i);
        }
        for (int i = 0; i < 16; i++) {
            yard.pass(60);
            yard.ends();
            yard.digest();
            yard.set(0, i % 3 + 1);
            yard.undo();
        }
        int[] after = size(yard);
        Script.due("room", "objects behind calls", after[0], before[0]);
        Script.due("room", "elements behind calls", after[1], before[1]);
    }

    private static int[] size(Object root) {
        int[] size = new int[2];
        IdentityHashMap<Object, Object> seen = new IdentityHashMap<>();
        List<Object> open = new ArrayList<>(List.of(root));
        while (!open.isEmpty()) {
            Object object = open.remove(open.size() - 1);
            if (seen.put(object, object) == null) {
                size[0]++;
                size[1] += measure(object, open);
            }
        }
        return size;
    }

    /** The fields or elements of an object; those that are objects are put into a list. */
    private static int measure(Object object, List<Object> open) {
        Class<?> type = object.getClass();
        int count = 0;
        if (type.isArray()) {
            for (int i = 0; i < Array.getLength(object) && !type.getComponentType().isPrimitive(); i++) {
                open.add(Array.get(object, i));
            }
            return Array.getLength(object);
        }
        for (Field field : type.getDeclaredFields()) {
            if (!Modifier.isStatic(field.getModifiers())) {
                count++;
                putValue(field, object, open);
            }
        }
        return count;
    }

    private static void putValue(Field field, Object object, List<Object> open) {
        field.setAccessible(true);
        try {
            if (!field.getType().isPrimitive() && field.get(object) != null) {
                open.add(field.get(object));
            }
        } catch (IllegalAccessException e) {
            Script.due("room", "no access to " + field, true, false);
        }
    }
}
