import java.io.IOException;
import java.lang.reflect.Constructor;
import java.lang.reflect.Field;
import java.lang.reflect.Member;
import java.lang.reflect.Method;
import java.lang.reflect.Modifier;
import java.nio.file.Files;
import java.nio.file.Path;
import java.util.Arrays;
import java.util.List;
import java.util.Set;
import java.util.TreeSet;

/** The public face as the document has it, and what can be seen of LANGUAGE.md's rules from outside. */
public final class FaceTest {
    private static final String INT5 = "(int, int, int, int, int)";
    private static final List<String> FACE = List.of("int feed" + INT5, "int terms(int)", "int fault(int)",
            "boolean land(int, int)", "int days(int)", "boolean village(int, int, int, boolean)",
            "boolean errs(int, int)", "int count(int, int, int, int)", "int note(int, int, int, int)",
            "int strike(int)", "int span(int, int, int, int)", "int canal(int)", "int drinks(int, int)",
            "int given(int)", "int turned(int, int)", "int draft(int)",
            "int look(int, int) IndexOutOfBoundsException NoSuchElementException", "int does(int, int, int)",
            "int best(int, int)", "int weights(int, int)", "int knows(int, int, int)", "int explained(int, int)",
            "int through(int)", "int candidate(int)", "int flight" + INT5, "int guards" + INT5, "int counted(int)");

    public static void main(String[] args) throws IOException {
        Class<?> c = AwardLine.class;
        Check.due("public final", c.getModifiers() & (Modifier.PUBLIC | Modifier.FINAL),
                Modifier.PUBLIC | Modifier.FINAL);
        Check.due("constructors", c.getDeclaredConstructors().length, 1);
        for (Constructor<?> k : c.getDeclaredConstructors()) {
            Check.due("public AwardLine()", Modifier.isPublic(k.getModifiers()) && k.getParameterCount() == 0, true);
        }
        methods(c);
        for (Field f : c.getDeclaredFields()) {
            Check.due("field " + f.getName(), isPrivate(f), !f.getName().equals("NONE"));
        }
        classes(c);
        source(Path.of(args.length > 0 ? args[0] : "."));
        Check.end();
    }

    private static boolean isPrivate(Member m) {
        return Modifier.isPrivate(m.getModifiers());
    }

    private static void methods(Class<?> c) {
        Set<String> found = new TreeSet<>();
        for (Method m : c.getDeclaredMethods()) {
            if (!isPrivate(m) && !m.isSynthetic()) {
                found.add(told(m));
                Check.due("public " + m.getName(), Modifier.isPublic(m.getModifiers()), true);
            }
        }
        for (String s : FACE) {
            Check.due("the face has " + s, found.remove(s), true);
        }
        for (String s : found) {
            Check.due("the face hasn't " + s, 1, 0);
        }
    }

    private static String told(Method m) {
        StringBuilder s = new StringBuilder(m.getReturnType() + " " + m.getName());
        String types = Arrays.toString(m.getParameterTypes());
        s.append('(').append(types, 1, types.length() - 1).append(')');
        for (Class<?> e : m.getExceptionTypes()) {
            s.append(' ').append(e.getSimpleName());
        }
        return s.toString();
    }

    private static void classes(Class<?> c) {
        Set<String> names = new TreeSet<>();
        for (Method m : c.getDeclaredMethods()) {
            if (Modifier.isPublic(m.getModifiers())) {
                names.add(m.getName());
            }
        }
        Check.due("some twelve classes", c.getDeclaredClasses().length <= 12, true);
        for (Class<?> k : c.getDeclaredClasses()) {
            Check.due(k + " is static", Modifier.isStatic(k.getModifiers()), true);
            for (Method m : k.getDeclaredMethods()) {
                Check.due(k + " bears the face's name " + m.getName(), names.contains(m.getName()), false);
                Check.due(k + "." + m.getName() + " takes seven at most", m.getParameterCount() <= 7, true);
            }
            int fields = 0;
            for (Field f : k.getDeclaredFields()) {
                fields += Modifier.isStatic(f.getModifiers()) ? 0 : 1;
                Check.due(f + " is final", !Modifier.isStatic(f.getModifiers()) || Modifier.isFinal(f.getModifiers()),
                        true);
            }
            Check.due(k + " has some twenty fields at most", fields <= 20, true);
        }
    }

    /** Words that the file has no use for: no catch at all, and no object made by a call. */
    private static void source(Path root) throws IOException {
        List<String> lines = Files.readAllLines(root.resolve("src/main/java/AwardLine.java"));
        for (String line : lines) {
            for (String word : List.of("catch", "finally", "synchronized", "assert", "->", "::", "Exact(", "System.out",
                    "MAX_VALUE", "\" +", "hashCode", "toString")) {
                Check.due("the source has " + word + ": " + line.trim(), line.contains(word), false);
            }
            boolean made = line.contains("= new ") || line.contains("return new ");
            boolean atFirst = line.contains("final ") || line.startsWith("        ") && !line.startsWith("         ");
            Check.due("made but in a constructor: " + line.trim(), made && !atFirst, false);
        }
    }
}
