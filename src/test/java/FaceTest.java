import java.lang.reflect.Constructor;
import java.lang.reflect.Field;
import java.lang.reflect.Method;
import java.lang.reflect.Modifier;
import java.nio.file.Files;
import java.nio.file.Path;
import java.util.ArrayList;
import java.util.List;
import java.util.Set;
import java.util.TreeSet;

/** The class has the document's face and nothing else to be seen, and keeps the rules that a text shows. */
public final class FaceTest {
    private static final String[] FACE = {
        "int word(int) throws IllegalArgumentException IllegalStateException",
        "int close() throws IllegalStateException UnsupportedOperationException",
        "int drop(int) throws NoSuchElementException",
        "int flush() throws UnsupportedOperationException",
        "int finish() throws UnsupportedOperationException",
        "int find(int int int) throws IllegalArgumentException",
        "int rank(int int) throws IllegalArgumentException",
        "int result(int) throws NoSuchElementException",
        "double score(int) throws NoSuchElementException UnsupportedOperationException",
        "int byteOf(int int) throws IndexOutOfBoundsException",
        "int run(int int) throws NoSuchElementException IllegalArgumentException",
        "int count(int)",
    };
    private static final String[] RULED_OUT = {
        "->", "::", "finally", "synchronized", "assert ", "Random", "System.nano", "System.current",
        "Exact(", "Thread", "java.io", "java.nio", "package ", "protected ", "native ", "volatile ",
    };

    public static void main(String[] args) throws Exception {
        Check check = new Check();
        Class<?> face = IndexBuilder.class;
        check.yes("public and final", Modifier.isPublic(face.getModifiers()) && Modifier.isFinal(face.getModifiers()));
        Constructor<?>[] made = face.getDeclaredConstructors();
        check.due("one constructor", made.length, 1);
        check.due("its form", made[0].toString(), "public IndexBuilder(int,int,int)");
        Set<String> names = new TreeSet<>();
        Set<String> open = new TreeSet<>();
        for (Method m : face.getDeclaredMethods()) {
            if (!Modifier.isPrivate(m.getModifiers()) && !m.isSynthetic()) {
                open.add(form(m));
                names.add(m.getName());
                check.yes(m.getName() + " is public", Modifier.isPublic(m.getModifiers()));
            }
        }
        check.due("the face", String.join("; ", open), String.join("; ", new TreeSet<>(List.of(FACE))));
        for (Method m : face.getDeclaredMethods()) {
            boolean twice = Modifier.isPrivate(m.getModifiers()) && names.contains(m.getName());
            check.yes(m.getName() + " is the name of one method", !twice);
        }
        fields(check, face);
        int classes = face.getDeclaredClasses().length;
        check.yes("at most twelve classes", classes <= 12);
        for (Class<?> inside : face.getDeclaredClasses()) {
            check.yes(inside + " is static", Modifier.isStatic(inside.getModifiers()));
            fields(check, inside);
        }
        String text = Files.readString(Path.of("src/main/java/IndexBuilder.java"));
        for (String word : RULED_OUT) {
            check.yes("no '" + word + "' in the program", !text.contains(word));
        }
        check.end();
    }

    private static void fields(Check check, Class<?> of) {
        int own = 0;
        for (Field f : of.getDeclaredFields()) {
            check.yes(f + " is private", Modifier.isPrivate(f.getModifiers()) || f.isSynthetic());
            if (Modifier.isStatic(f.getModifiers())) {
                check.yes(f + " is final", Modifier.isFinal(f.getModifiers()));
            } else {
                own++;
            }
        }
        check.yes(of + " has at most twenty fields", own <= 20);
    }

    private static String form(Method m) {
        String thrown = names(m.getExceptionTypes());
        return m.getReturnType().getSimpleName() + " " + m.getName() + "(" + names(m.getParameterTypes()) + ")"
            + (thrown.isEmpty() ? "" : " throws " + thrown);
    }

    private static String names(Class<?>[] classes) {
        List<String> all = new ArrayList<>();
        for (Class<?> c : classes) {
            all.add(c.getSimpleName());
        }
        return String.join(" ", all);
    }
}
