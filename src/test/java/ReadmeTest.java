import java.lang.reflect.InvocationTargetException;
import java.lang.reflect.Method;
import java.lang.reflect.Modifier;
import java.nio.file.Files;
import java.nio.file.Path;
import java.util.Set;
import java.util.TreeSet;
import java.util.regex.Matcher;
import java.util.regex.Pattern;

/** The example of README.md: each call answers or throws what stands behind it, and no method is missing. */
public final class ReadmeTest {
    private static final Check CHECK = new Check();
    private static final Pattern MADE = Pattern.compile("new IndexBuilder\\((\\d+), (\\d+), (\\d+)\\);");
    private static final Pattern CALL = Pattern.compile("x\\.(\\w+)\\(([^)]*)\\); +// (throws \\w+|-?[\\d.]+)(:.*)?");

    public static void main(String[] args) throws Exception {
        String text = Files.readString(Path.of("README.md"));
        Matcher block = Pattern.compile("```java\\n(.*?)```", Pattern.DOTALL).matcher(text);
        CHECK.yes("there is an example", block.find());
        String[] lines = block.group(1).split("\\n");
        Matcher made = MADE.matcher(lines[0]);
        CHECK.yes("it makes an object first", made.find());
        IndexBuilder x = new IndexBuilder(number(made, 1), number(made, 2), number(made, 3));
        Set<String> shown = new TreeSet<>();
        for (int i = 1; i < lines.length; i++) {
            Matcher call = CALL.matcher(lines[i]);
            CHECK.yes("a call with its answer: " + lines[i], call.matches());
            shown.add(call.group(1));
            String got = answer(x, call.group(1), call.group(2));
            CHECK.due(lines[i], got, call.group(3));
        }
        for (Method m : IndexBuilder.class.getDeclaredMethods()) {
            if (Modifier.isPublic(m.getModifiers())) {
                CHECK.yes("the example shows " + m.getName(), shown.contains(m.getName()));
                CHECK.yes("the table has " + m.getName(), text.contains("| `" + m.getName() + "("));
            }
        }
        CHECK.end();
    }

    private static int number(Matcher m, int group) {
        return Integer.parseInt(m.group(group));
    }

    private static String answer(IndexBuilder x, String name, String arguments) throws Exception {
        String[] parts = arguments.isEmpty() ? new String[0] : arguments.split(", ");
        Class<?>[] types = new Class<?>[parts.length];
        Object[] values = new Object[parts.length];
        for (int i = 0; i < parts.length; i++) {
            types[i] = int.class;
            values[i] = Integer.valueOf(parts[i]);
        }
        try {
            return String.valueOf(IndexBuilder.class.getMethod(name, types).invoke(x, values));
        } catch (InvocationTargetException e) {
            return "throws " + e.getCause().getClass().getSimpleName();
        }
    }
}
