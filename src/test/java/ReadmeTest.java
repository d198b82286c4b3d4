import java.io.IOException;
import java.lang.reflect.InvocationTargetException;
import java.lang.reflect.Method;
import java.nio.file.Files;
import java.nio.file.Path;
import java.util.Arrays;
import java.util.regex.Matcher;
import java.util.regex.Pattern;

/** The examples of README.md: each call answers what stands behind it, and all of the face is told. */
public final class ReadmeTest {
    private static final Path README = Path.of("README.md");
    private static final Pattern BLOCK = Pattern.compile("```java\n(.*?)```", Pattern.DOTALL);
    private static final Pattern CALL = Pattern.compile("town\\.(\\w+)\\((.*)\\); +// (-?\\d+)(:.*)?");
    private static final String MADE = "KilnPermits town = new KilnPermits();";

    private ReadmeTest() {
    }

    public static void main(String[] args) throws IOException, ReflectiveOperationException {
        Check c = new Check("readme");
        String readme = Files.readString(README);
        Matcher blocks = BLOCK.matcher(readme);
        while (blocks.find()) {
            example(c, blocks.group(1));
        }
        c.part("what is told");
        for (Method method : KilnPermits.class.getMethods()) {
            if (method.getDeclaringClass() == KilnPermits.class) {
                c.holds("tells of " + method.getName(), readme.contains("`" + method.getName() + "("));
            }
        }
        for (String error : new String[] {"UNKNOWN", "BAD_VALUE", "FULL", "NOT_POSSIBLE", "NONE"}) {
            int answer = KilnPermits.class.getField(error).getInt(null);
            c.holds("tells of " + error, readme.contains("| `" + error + "` | " + answer + " |"));
        }
        c.close();
    }

    private static void example(Check c, String code) throws ReflectiveOperationException {
        KilnPermits town = null;
        for (String line : code.split("\n")) {
            c.part(line);
            Matcher call = CALL.matcher(line);
            if (line.equals(MADE)) {
                town = new KilnPermits();
            } else if (town != null && call.matches()) {
                c.due(Long.parseLong(call.group(3)), answer(town, call.group(1), call.group(2)));
            } else {
                c.holds("a line makes a town, or calls it with an answer behind", false);
            }
        }
    }

    private static int answer(KilnPermits town, String name, String written)
            throws ReflectiveOperationException {
        String[] parts = written.isEmpty() ? new String[0] : written.split(", ");
        Method method = Arrays.stream(KilnPermits.class.getMethods())
            .filter(each -> each.getName().equals(name) && each.getParameterCount() == parts.length)
            .findFirst().orElseThrow(() -> new NoSuchMethodException(name));
        Object[] values = new Object[parts.length];
        for (int i = 0; i < parts.length; i++) {
            values[i] = value(method.getParameterTypes()[i], parts[i]);
        }
        try {
            return (Integer) method.invoke(town, values);
        } catch (InvocationTargetException thrown) {
            throw new IllegalStateException(name + " threw", thrown);
        }
    }

    private static Object value(Class<?> type, String written) {
        if (type == boolean.class) {
            return Boolean.parseBoolean(written);
        }
        return type == char.class ? (Object) written.charAt(1) : (Object) Integer.parseInt(written);
    }
}
