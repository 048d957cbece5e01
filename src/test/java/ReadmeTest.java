import java.io.IOException;
import java.lang.reflect.Method;
import java.lang.reflect.Modifier;
import java.nio.charset.StandardCharsets;
import java.nio.file.Files;
import java.nio.file.Path;
import java.util.regex.Matcher;
import java.util.regex.Pattern;

/** The calls that README.md shows answer what it says, and it names every call of the face. */
public final class ReadmeTest extends Bench {
    /** A call, and its answer at the beginning of the comment behind it. */
    private static final Pattern SHOWN = Pattern.compile("heap\\.(\\w+)\\(([^)]*)\\); *// (-?\\d+|true|false)\\b.*");

    public static void main(String[] args) throws ReflectiveOperationException, IOException {
        String page = Files.readString(Path.of("README.md"), StandardCharsets.UTF_8);
        at("README.md");
        example(page);
        names(page);
        end();
    }

    private static void example(String page) throws ReflectiveOperationException {
        DoubleHeap heap = new DoubleHeap();
        int start = page.indexOf("```java\n");
        due("there is an example", start >= 0, true);
        String code = page.substring(start, page.indexOf("\n```", start));
        for (String line : code.split("\n")) {
            if (line.startsWith("heap.")) {
                Matcher shown = SHOWN.matcher(line);
                due("a call with its answer: " + line, shown.matches(), true);
                due(line, answer(heap, shown.group(1), shown.group(2)), number(shown.group(3)));
            }
        }
    }

    private static long answer(DoubleHeap heap, String name, String told) throws ReflectiveOperationException {
        String[] parts = told.isEmpty() ? new String[0] : told.split(", ");
        Class<?>[] types = new Class<?>[parts.length];
        Object[] values = new Object[parts.length];
        for (int i = 0; i < parts.length; i++) {
            types[i] = int.class;
            values[i] = Integer.valueOf(parts[i]);
        }
        return number(String.valueOf(DoubleHeap.class.getMethod(name, types).invoke(heap, values)));
    }

    private static long number(String told) {
        return told.equals("true") ? 1 : told.equals("false") ? 0 : Long.parseLong(told);
    }

    private static void names(String page) {
        for (Method m : DoubleHeap.class.getDeclaredMethods()) {
            if (Modifier.isPublic(m.getModifiers())) {
                due("it names " + m.getName(), page.contains("`" + m.getName() + "`"), true);
            }
        }
    }
}
