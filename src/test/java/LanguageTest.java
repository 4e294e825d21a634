import java.io.PrintWriter;
import java.io.StringWriter;
import java.lang.reflect.Executable;
import java.lang.reflect.Method;
import java.lang.reflect.Modifier;
import java.nio.file.Files;
import java.nio.file.Path;
import java.util.ArrayList;
import java.util.List;
import java.util.Map;
import java.util.Set;
import java.util.TreeMap;
import java.util.TreeSet;
import java.util.regex.Matcher;
import java.util.regex.Pattern;
import java.util.spi.ToolProvider;

/** The rules of LANGUAGE.md that the compiled class shows: its library, its depth of calls, its throws. */
public final class LanguageTest {
    private static final Check CHECK = new Check();
    private static final int MOST_PARAMETERS = 7;
    private static final int MOST_LINES = 60;
    private static final int MOST_DEPTH = 8;

    /** What the program needs of rule 4; another call is looked up there before it is added here. */
    private static final Set<String> LIBRARY = Set.of(
        "java/lang/Object.<init>", "java/lang/Integer.bitCount", "java/lang/Math.max", "java/lang/Math.min",
        "java/util/ArrayList.<init>", "java/util/ArrayList.add", "java/util/ArrayList.get",
        "java/util/ArrayList.isEmpty", "java/util/ArrayList.remove", "java/util/ArrayList.size",
        "java/util/Arrays.fill",
        "java/lang/IllegalArgumentException.<init>", "java/lang/IllegalStateException.<init>",
        "java/lang/IndexOutOfBoundsException.<init>", "java/lang/UnsupportedOperationException.<init>",
        "java/util/NoSuchElementException.<init>");

    private static final Pattern HEAD = Pattern.compile("^  (?! )(?:.* )?([\\w.$]+)\\(.*\\)(?: throws .*)?;$");
    private static final Pattern CALL = Pattern.compile("invoke\\w+ .*Method (?:([\\w/$]+)\\.)?\"?([\\w<>$]+)\"?:");
    private static final Pattern LINE = Pattern.compile("^      line (\\d+): \\d+$");

    /** Of each method, named with its class: which methods of the program it calls. */
    private static final Map<String, Set<String>> CALLS = new TreeMap<>();
    private static int throwsSeen = 0;

    public static void main(String[] args) throws Exception {
        String text = Files.readString(Path.of("src/main/java/IndexBuilder.java"));
        for (Class<?> c : classes()) {
            parameters(c);
            readCode(c.getName());
        }
        names();
        CHECK.yes("methods were seen", CALLS.size() > 12 && CALLS.containsKey("IndexBuilder$Postings.<init>"));
        for (String method : CALLS.keySet()) {
            int depth = depthOf(method, 1);
            CHECK.yes(method + " goes at most eight calls deep, and never into itself", depth <= MOST_DEPTH);
        }
        CHECK.due("each throw is of a new exception", throwsSeen, text.split("throw new ", -1).length - 1);
        imports(text);
        CHECK.end();
    }

    private static List<Class<?>> classes() {
        List<Class<?>> all = new ArrayList<>(List.of(IndexBuilder.class.getDeclaredClasses()));
        all.add(IndexBuilder.class);
        return all;
    }

    private static void parameters(Class<?> c) {
        List<Executable> all = new ArrayList<>(List.of(c.getDeclaredMethods()));
        all.addAll(List.of(c.getDeclaredConstructors()));
        for (Executable e : all) {
            CHECK.yes(e + " has at most seven parameters", e.getParameterCount() <= MOST_PARAMETERS);
        }
    }

    private static void names() {
        Set<String> face = new TreeSet<>();
        for (Method m : IndexBuilder.class.getDeclaredMethods()) {
            if (Modifier.isPublic(m.getModifiers())) {
                face.add(m.getName());
            }
        }
        for (Class<?> c : classes()) {
            for (Method m : c.getDeclaredMethods()) {
                boolean twice = Modifier.isPrivate(m.getModifiers()) && face.contains(m.getName());
                CHECK.yes(m + " does not bear the name of a public method", !twice);
            }
        }
    }

    private static void imports(String text) {
        Set<String> allowed = Set.of("java.util.ArrayList", "java.util.Arrays", "java.util.NoSuchElementException");
        Matcher m = Pattern.compile("(?m)^import (.*);$").matcher(text);
        while (m.find()) {
            CHECK.yes("import of " + m.group(1), allowed.contains(m.group(1)));
        }
    }

    private static void readCode(String name) {
        StringWriter code = new StringWriter();
        PrintWriter to = new PrintWriter(code);
        String path = System.getProperty("java.class.path");
        int ended = ToolProvider.findFirst("javap").orElseThrow().run(to, to, "-p", "-c", "-l", "-cp", path, name);
        CHECK.due("javap of " + name, ended, 0);
        String method = "";
        int first = 0;
        for (String line : code.toString().split("\\R")) {
            Matcher head = HEAD.matcher(line);
            Matcher at = LINE.matcher(line);
            if (head.matches()) {
                method = name + "." + (head.group(1).equals(name) ? "<init>" : head.group(1));
                CALLS.putIfAbsent(method, new TreeSet<>());
                first = 0;
            } else if (at.matches()) {
                int number = Integer.parseInt(at.group(1));
                first = first == 0 ? number : first;
                CHECK.yes(method + " is short", number - first < MOST_LINES);
            } else {
                readStep(name, method, line);
            }
        }
    }

    private static void readStep(String name, String method, String line) {
        CHECK.yes(method + " catches nothing", !line.contains("Exception table"));
        CHECK.yes(method + " has no lambda and joins no texts", !line.contains("invokedynamic"));
        CHECK.yes(method + " locks nothing", !line.contains("monitorenter"));
        if (line.contains(": athrow")) {
            throwsSeen++;
            CHECK.yes(method + " is no constructor that throws", !method.endsWith("<init>"));
        }
        Matcher call = CALL.matcher(line);
        if (call.find()) {
            String of = call.group(1) == null ? name : call.group(1);
            String called = of + "." + call.group(2);
            if (of.startsWith("IndexBuilder")) {
                CALLS.get(method).add(called);
            } else {
                CHECK.yes(method + " may call " + called, LIBRARY.contains(called));
            }
        }
    }

    /** Recursion would go ever deeper, so it ends at the first depth that is refused. */
    private static int depthOf(String method, int depth) {
        int deepest = depth;
        if (depth <= MOST_DEPTH) {
            for (String called : CALLS.getOrDefault(method, Set.of())) {
                deepest = Math.max(deepest, depthOf(called, depth + 1));
            }
        }
        return deepest;
    }
}
