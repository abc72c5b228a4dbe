import java.lang.reflect.InvocationTargetException;
import java.lang.reflect.Method;

/**
 * Runs calls that stand in a text, one a line, on a new object:
 *
 *   text 1:100,2:50          clears the buffer and appends each character
 *   book(0, 3) = 1           the call answers 1
 *   book(9, 3) throws IndexOutOfBounds
 *
 * A call that throws, and one that only asks, must change nothing: the digest
 * stays, and so does all that it does not tell. A twin, on which such calls
 * are not made, must answer the same to the end: as long as calls are undone,
 * and when all that is booked is moved in a storm. And a third object, on which
 * nothing but the calls of the text is made, must answer the same: there no
 * digest looks at a state ahead of the next call.
 */
final class Script {
    // Behind so many calls of an object the document promises nothing.
    private static final int MOST_CALLS = 512;
    private static final String CHANGING =
            " book unbook set pass inspect fix claim release append clearBuffer addHouse setWinds undo ";
    private static final String[] UNDONE = {"undo()", "undo()", "undo()", "undo()", "undo()", "undo()", "undo()"};
    private static final String[] STORM = {
        "clearBuffer()", "append(57)", "setWinds()", "set(1, 3)", "set(0, 1)", "pass(1)", "pass(1)",
    };

    private static int rows = 0;
    private static int wrong = 0;

    private final String title;
    private final ModuleYard yard = new ModuleYard();
    private final ModuleYard twin = new ModuleYard();
    private final ModuleYard bare = new ModuleYard();
    private int calls = 0;

    private Script(String title) {
        this.title = title;
    }

    static void run(String title, String lines) {
        new Script(title).go(lines, UNDONE);
        new Script(title).go(lines, STORM);
    }

    static void type(ModuleYard yard, String text) {
        yard.clearBuffer();
        for (char sign : text.toCharArray()) {
            yard.append(sign);
        }
    }

    static void due(String title, String what, Object got, Object want) {
        rows++;
        if (!got.equals(want)) {
            wrong++;
            System.out.println(title + ": " + what + " answered " + got + ", due is " + want);
        }
    }

    static void close() {
        System.out.println(rows + " rows, " + wrong + " wrong");
        if (wrong != 0 || rows == 0) {
            System.exit(1);
        }
    }

    /** The answer as a text; "throws X" for the exception X of exactly this class. */
    static String answer(Object yard, String call) {
        String name = call.substring(0, call.indexOf('('));
        String list = call.substring(call.indexOf('(') + 1, call.lastIndexOf(')')).strip();
        String[] words = list.isEmpty() ? new String[0] : list.split("\\s*,\\s*");
        try {
            Method method = methodOf(yard, name);
            return String.valueOf(method.invoke(yard, arguments(method, words)));
        } catch (InvocationTargetException e) {
            return "throws " + e.getCause().getClass().getSimpleName();
        } catch (IllegalAccessException e) {
            return "no access";
        }
    }

    private void go(String lines, String[] end) {
        for (String line : lines.split("\n")) {
            String row = line.strip();
            if (row.equals("text") || row.startsWith("text ")) {
                String text = row.substring(4).strip();
                type(yard, text);
                type(twin, text);
                type(bare, text);
                calls += 1 + text.length();
            } else if (!row.isEmpty() && !row.startsWith("#")) {
                check(row);
            }
        }
        due(title, "digest() behind calls without digests", bare.digest(), yard.digest());
        for (String call : end) {
            due(title, call + " at the end", answer(yard, call), answer(twin, call));
            due(title, "digest() after " + call + " at the end", yard.digest(), twin.digest());
            calls += 2;
        }
        due(title, "too many calls", calls > MOST_CALLS, false);
    }

    private void check(String row) {
        int end = row.indexOf(')') + 1;
        String call = row.substring(0, end);
        String rest = row.substring(end).strip();
        boolean isRefused = !rest.startsWith("=");
        boolean asks = !CHANGING.contains(" " + call.substring(0, call.indexOf('(')) + " ");
        String want = isRefused ? rest + "Exception" : rest.substring(1).strip();
        due(title, call + " without a digest ahead of it", answer(bare, call), want);
        long before = yard.digest();
        due(title, call, answer(yard, call), want);
        if (!asks && !isRefused) {
            answer(twin, call);
        }
        long after = yard.digest();
        due(title, "digest() after " + call, after, asks || isRefused ? before : twin.digest());
        calls += 3;
    }

    private static Method methodOf(Object yard, String name) {
        for (Method method : yard.getClass().getMethods()) {
            if (method.getName().equals(name)) {
                return method;
            }
        }
        throw new IllegalArgumentException("no method " + name);
    }

    private static Object[] arguments(Method method, String[] words) {
        Object[] values = new Object[words.length];
        for (int i = 0; i < words.length; i++) {
            boolean isFlag = method.getParameterTypes()[i] == boolean.class;
            values[i] = isFlag ? (Object) Boolean.valueOf(words[i]) : (Object) number(words[i]);
        }
        return values;
    }

    private static Integer number(String word) {
        return word.equals("NONE") ? Integer.valueOf(ModuleYard.NONE) : Integer.valueOf(word);
    }
}
