import java.io.IOException;
import java.lang.reflect.Method;
import java.lang.reflect.Modifier;
import java.nio.file.Files;
import java.nio.file.Path;
import java.util.regex.Matcher;
import java.util.regex.Pattern;

/** What README.md tells of the calls: every call of the face is named, and the example answers as written. */
public final class ReadmeTest {
    private static final Pattern ROW = Pattern.compile("x\\.(\\w+)\\(([^)]*)\\);\\s*// (true|false|-?\\d+)(:.*)?");

    public static void main(String[] args) throws IOException, ReflectiveOperationException {
        String readme = Files.readString(Path.of(args.length > 0 ? args[0] : ".").resolve("README.md"));
        for (Method m : AwardLine.class.getDeclaredMethods()) {
            if (Modifier.isPublic(m.getModifiers())) {
                boolean named = Pattern.compile("`" + m.getName() + "\\([^)]*\\)`").matcher(readme).find();
                Check.due("README.md names " + m.getName(), named, true);
            }
        }
        example(readme);
        Check.end();
    }

    private static void example(String readme) throws ReflectiveOperationException {
        AwardLine x = new AwardLine();
        int rows = 0;
        for (String line : readme.split("\n")) {
            if (line.startsWith("x.")) {
                Matcher row = ROW.matcher(line);
                Check.due("can be read: " + line, row.matches(), true);
                if (row.matches()) {
                    Check.due(line, answer(x, row.group(1), row.group(2).split(", ")), number(row.group(3)));
                }
                rows++;
            }
        }
        Check.due("README.md has an example", rows > 0, true);
    }

    private static long answer(AwardLine x, String name, String[] given) throws ReflectiveOperationException {
        for (Method m : AwardLine.class.getDeclaredMethods()) {
            if (Modifier.isPublic(m.getModifiers()) && m.getName().equals(name)
                    && m.getParameterCount() == given.length) {
                return asked(x, m, given);
            }
        }
        throw new NoSuchMethodException(name);
    }

    private static long asked(AwardLine x, Method m, String[] given) throws ReflectiveOperationException {
        Object[] values = new Object[given.length];
        for (int i = 0; i < given.length; i++) {
            int value = number(given[i]);
            values[i] = m.getParameterTypes()[i] == boolean.class ? (Object) (value != 0) : (Object) value;
        }
        Object answer = m.invoke(x, values);
        return answer instanceof Boolean ? ((Boolean) answer ? 1 : 0) : (Integer) answer;
    }

    private static int number(String written) {
        switch (written) {
            case "true":
                return 1;
            case "false":
                return 0;
            case "AwardLine.NONE":
                return AwardLine.NONE;
            default:
                return (int) (long) Long.decode(written);
        }
    }
}
