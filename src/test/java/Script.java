import java.lang.reflect.InvocationTargetException;
import java.lang.reflect.Method;

/**
 * Runs calls that stand in a text, one a line, on a new object:
 *
 *   text 1:100,2:50          appends each character
 *   book(0, 3) = 1           the call answers 1
 *   book(9, 3) throws IndexOutOfBounds
 *
 * A call that throws, and one that only asks, must leave the digest as it was.
 */
final class Script {
    private static final String CHANGING =
            " book unbook set pass inspect fix claim release append clearBuffer addHouse setWinds undo ";

    private static int rows = 0;
    private static int wrong = 0;

    private Script() {
    }

    static void run(String title, String lines) {
        ModuleYard yard = new ModuleYard();
        for (String line : lines.split("\n")) {
            String row = line.strip();
            if (row.equals("text") || row.startsWith("text ")) {
                type(yard, row.substring(4).strip());
            } else if (!row.isEmpty() && !row.startsWith("#")) {
                check(title, yard, row);
            }
        }
    }

    static void type(ModuleYard yard, String text) {
        yard.clearBuffer();
        for (char sign : text.toCharArray()) {
            yard.append(sign);
        }
    }

    static void due(String title, String what, Object got, Object want) {
        rows++;
        if (!got.equals(want)) {
            wrong++;
            System.out.println(title + ": " + what + " answered " + got + ", due is " + want);
        }
    }

    static void close() {
        System.out.println(rows + " rows, " + wrong + " wrong");
        if (wrong != 0 || rows == 0) {
            System.exit(1);
        }
    }

    /** The answer as a text; "throws X" for the exception X of exactly this class. */
    static String answer(Object yard, String call) {
        String name = call.substring(0, call.indexOf('('));
        String list = call.substring(call.indexOf('(') + 1, call.lastIndexOf(')')).strip();
        String[] words = list.isEmpty() ? new String[0] : list.split("\\s*,\\s*");
        try {
            Method method = methodOf(yard, name);
            return String.valueOf(method.invoke(yard, arguments(method, words)));
        } catch (InvocationTargetException e) {
            return "throws " + e.getCause().getClass().getSimpleName();
        } catch (IllegalAccessException e) {
            return "no access";
        }
    }

    private static void check(String title, ModuleYard yard, String row) {
        int end = row.indexOf(')') + 1;
        String call = row.substring(0, end);
        String rest = row.substring(end).strip();
        String want = rest.startsWith("=") ? rest.substring(1).strip() : rest + "Exception";
        long before = yard.digest();
        String got = answer(yard, call);
        due(title, call, got, want);
        boolean asks = !CHANGING.contains(" " + call.substring(0, call.indexOf('(')) + " ");
        if (asks || got.startsWith("throws")) {
            due(title, "digest() after " + call, yard.digest(), before);
        }
    }

    private static Method methodOf(Object yard, String name) {
        for (Method method : yard.getClass().getMethods()) {
            if (method.getName().equals(name)) {
                return method;
            }
        }
        throw new IllegalArgumentException("no method " + name);
    }

    private static Object[] arguments(Method method, String[] words) {
        Object[] values = new Object[words.length];
        for (int i = 0; i < words.length; i++) {
            boolean isFlag = method.getParameterTypes()[i] == boolean.class;
            values[i] = isFlag ? (Object) Boolean.valueOf(words[i]) : (Object) number(words[i]);
        }
        return values;
    }

    private static Integer number(String word) {
        return word.equals("NONE") ? Integer.valueOf(ModuleYard.NONE) : Integer.valueOf(word);
    }
}
