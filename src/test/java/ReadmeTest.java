import java.io.IOException;
import java.lang.reflect.Method;
import java.lang.reflect.Modifier;
import java.nio.file.Files;
import java.nio.file.Path;
import java.util.Arrays;
import java.util.Map;
import java.util.TreeMap;
import java.util.regex.Matcher;
import java.util.regex.Pattern;

/** README.md: the answers in its example, the items of its text, and a line for each call of the face. */
public final class ReadmeTest {
    private static final Due due = new Due();
    private static final Pattern EXAMPLE = Pattern.compile("(?m)^rail\\.(\\w+)\\(([-0-9, ]*)\\); +// (-?\\d+): ");
    private static final Pattern LINE = Pattern.compile("(?m)^\\| `(\\w+)\\(([a-z, ]*)\\)` \\|");
    private static final Pattern TEXT = Pattern.compile("(?s)\\((\\d+) here\\).*?```text\\n(.*?)\\n```");

    public static void main(String[] args) throws IOException, ReflectiveOperationException {
        String page = Files.readString(Path.of("README.md"));
        example(page);
        text(page);
        table(page);
        due.end();
    }

    private static void example(String page) throws ReflectiveOperationException {
        GloveRail rail = new GloveRail();
        Matcher line = EXAMPLE.matcher(page);
        int lines = 0;
        while (line.find()) {
            Object[] numbers = numbers(line.group(2));
            Class<?>[] types = new Class<?>[numbers.length];
            Arrays.fill(types, int.class);
            Method call = GloveRail.class.getMethod(line.group(1), types);
            due.is("the example, " + line.group(), ((Number) call.invoke(rail, numbers)).longValue(), Long.parseLong(line.group(3)));
            lines++;
        }
        due.is("all lines of the example were found", lines, page.split("(?m)^rail\\.", -1).length - 1);
    }

    private static Object[] numbers(String told) {
        return told.isBlank() ? new Object[0] : Arrays.stream(told.split(",")).map(n -> Integer.valueOf(n.trim())).toArray();
    }

    private static void text(String page) {
        Matcher told = TEXT.matcher(page);
        due.is("the text was found", told.find() ? 1 : 0, 1);
        GloveRail rail = new GloveRail();
        Due.type(rail, told.group(2));
        due.is("read() of " + told.group(2), rail.read(), Integer.parseInt(told.group(1)));
    }

    private static void table(String page) {
        Map<String, Integer> lines = new TreeMap<>();
        Matcher line = LINE.matcher(page);
        while (line.find()) {
            lines.put(line.group(1), line.group(2).isEmpty() ? 0 : line.group(2).split(",").length);
        }
        for (Method call : GloveRail.class.getDeclaredMethods()) {
            if (Modifier.isPublic(call.getModifiers())) {
                due.is("the line of " + call.getName(), lines.getOrDefault(call.getName(), -1), call.getParameterCount());
                lines.remove(call.getName());
            }
        }
        due.is("lines of calls that are none, " + lines, lines.size(), 0);
    }
}
