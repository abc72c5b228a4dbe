import java.io.IOException;
import java.lang.reflect.Method;
import java.lang.reflect.Modifier;
import java.nio.file.Files;
import java.nio.file.Path;
import java.util.HashMap;
import java.util.List;
import java.util.Map;
import java.util.regex.Matcher;
import java.util.regex.Pattern;
import java.util.stream.Collectors;
import java.util.stream.Stream;

/** README.md: the answers that its example tells, and what it names. */
public final class ReadmeTest {
    private static final Pattern TYPED = Pattern.compile("for \\(char sign : \"(.*)\"\\.toCharArray\\(\\)\\) \\{");
    private static final Pattern CALL = Pattern.compile("(?:int (\\w+) = )?yard\\.(\\w+\\(.*?\\)); +// (-?\\d+): .*");
    private static final List<String> SKIPPED = List.of(
            "ModuleYard yard = new ModuleYard();", "    yard.append(sign);", "}");

    public static void main(String[] args) throws IOException {
        String text = Files.readString(Path.of("README.md"));
        int start = text.indexOf("```java\n") + 8;
        example(text.substring(start, text.indexOf("```", start)).split("\n"));
        calls(text);
        tests(text);
        Script.close();
    }

    private static void example(String[] lines) {
        ModuleYard yard = new ModuleYard();
        Map<String, String> names = new HashMap<>();
        for (String line : lines) {
            Matcher typed = TYPED.matcher(line);
            Matcher call = CALL.matcher(line);
            if (typed.matches()) {
                Script.type(yard, typed.group(1));
            } else if (call.matches()) {
                String answer = Script.answer(yard, withValues(call.group(2), names));
                Script.due("README.md", line, answer, call.group(3));
                names.put(String.valueOf(call.group(1)), answer);
            } else {
                Script.due("README.md", "a line that can be read: " + line, SKIPPED.contains(line), true);
            }
        }
    }

    private static String withValues(String call, Map<String, String> names) {
        String text = call;
        for (Map.Entry<String, String> name : names.entrySet()) {
            text = text.replaceAll("(?<=[(, ])" + name.getKey() + "\\b", name.getValue());
        }
        return text;
    }

    private static void calls(String text) {
        for (Method method : ModuleYard.class.getDeclaredMethods()) {
            if (Modifier.isPublic(method.getModifiers())) {
                Script.due("README.md", "names " + method.getName(), text.contains("`" + method.getName() + "`"), true);
            }
        }
    }

    private static void tests(String text) throws IOException {
        try (Stream<Path> files = Files.list(Path.of("src/test/java"))) {
            List<String> names = files.map(file -> file.getFileName().toString()).collect(Collectors.toList());
            for (String name : names) {
                String title = name.substring(0, name.indexOf('.'));
                Script.due("README.md", "names " + title, text.contains("`" + title + "`"), true);
            }
        }
    }
}
