import java.io.IOException;
import java.lang.reflect.Constructor;
import java.lang.reflect.Field;
import java.lang.reflect.Method;
import java.lang.reflect.Modifier;
import java.nio.file.Files;
import java.nio.file.Path;
import java.util.Arrays;
import java.util.Random;
import java.util.TreeSet;
import java.util.regex.Pattern;

/** The face of the class, rules of the language, wild arguments, and the room that runs take. */
public final class RulesTest {
    private static final Path SOURCE = Path.of("src/main/java/KilnPermits.java");
    private static final String[] FACE = {
        "int ask(int, int, int)", "int audit(int)", "int bid(int, int, int)", "int borrow(int, int)",
        "int buyReserve(int, int)", "int clearText()", "int count(int)", "int depth(boolean, int)",
        "int endYear()", "int fire(int, int, int)", "int issue(int, int)", "int keep()",
        "int kiln(int, int)", "int ofYear(int, int)", "int order(boolean, int, int)",
        "int orderAll()", "int restore()", "int set(int, int)", "int takeBack(int)",
        "int type(char)", "int undo()",
    };
    private static final String[] CONSTANTS = {
        "BAD_VALUE", "FULL", "NONE", "NOT_POSSIBLE", "UNKNOWN",
    };
    private static final String[] FORBIDDEN = {
        "\\b(throw|throws|try|catch|finally|synchronized|assert|package|native|volatile|var)\\b",
        "->", "::", "\\bnew\\s+\\w+\\s*\\([^)]*\\)\\s*\\{", "\"", "\\bstatic\\s*\\{", "\\b\\w+Exact\\b",
        "\\b(Random|System\\.(?!arraycopy)|Thread|Object|HashMap|Map|Set|Exception|Error)\\b",
        "\\b(equals|hashCode|toString)\\b",
        "^import (?!java\\.util\\.Arrays;)",
        "[^\\x00-\\x7f]",
    };
    private static final int[] WILD = {
        Integer.MIN_VALUE, Integer.MIN_VALUE + 1, -1000, -1, 0, 1, 2, 3, 5, 6, 10, 99, 100, 500, 999,
        1000, 1 << 16, Integer.MAX_VALUE - 1, Integer.MAX_VALUE,
    };
    // A run may fill a room of 7.3 million fields and elements of four bytes and more each.
    private static final long MOST_BYTES_OF_A_RUN = 4_000_000;

    private RulesTest() {
    }

    public static void main(String[] args) throws IOException {
        Check c = new Check("rules");
        face(c);
        source(c);
        lengths(c);
        for (int seed = 0; seed < 400; seed++) {
            c.part("wild run " + seed);
            wildRun(new Random(seed));
            c.holds("nothing is thrown", true);
        }
        room(c);
        c.close();
    }

    private static void face(Check c) {
        c.part("the face");
        TreeSet<String> seen = new TreeSet<>();
        TreeSet<String> hidden = new TreeSet<>();
        for (Method method : KilnPermits.class.getDeclaredMethods()) {
            boolean isPublic = Modifier.isPublic(method.getModifiers());
            c.holds("public or private: " + method, isPublic || Modifier.isPrivate(method.getModifiers()));
            if (isPublic) {
                c.holds("no static method: " + method, !Modifier.isStatic(method.getModifiers()));
                String types = Arrays.toString(Arrays.stream(method.getParameterTypes()).map(Class::getName).toArray());
                seen.add(method.getReturnType() + " " + method.getName() + "("
                    + types.substring(1, types.length() - 1) + ")");
            } else {
                hidden.add(method.getName());
            }
        }
        c.holds("methods as told: " + seen, seen.equals(new TreeSet<>(Arrays.asList(FACE))));
        for (String method : FACE) {
            String name = method.substring(method.indexOf(' ') + 1, method.indexOf('('));
            c.holds("no private " + name, !hidden.contains(name));
        }
        TreeSet<String> constants = new TreeSet<>();
        for (Field field : KilnPermits.class.getDeclaredFields()) {
            int is = field.getModifiers();
            c.holds("public or private: " + field, Modifier.isPublic(is) || Modifier.isPrivate(is));
            c.holds("static is final: " + field, !Modifier.isStatic(is) || Modifier.isFinal(is));
            if (Modifier.isPublic(is)) {
                c.holds("constant: " + field, Modifier.isStatic(is) && field.getType() == int.class);
                constants.add(field.getName());
            }
        }
        c.holds("constants as told", constants.equals(new TreeSet<>(Arrays.asList(CONSTANTS))));
        Constructor<?>[] made = KilnPermits.class.getDeclaredConstructors();
        c.holds("one public constructor", made.length == 1 && Modifier.isPublic(made[0].getModifiers())
            && made[0].getParameterCount() == 0);
        c.holds("public and final", Modifier.isPublic(KilnPermits.class.getModifiers())
            && Modifier.isFinal(KilnPermits.class.getModifiers()));
        inside(c, hidden);
    }

    private static void inside(Check c, TreeSet<String> hidden) {
        Class<?>[] classes = KilnPermits.class.getDeclaredClasses();
        c.holds("some twelve classes", classes.length <= 12);
        for (Class<?> inner : classes) {
            c.holds("static: " + inner, Modifier.isStatic(inner.getModifiers()));
            c.holds("not public: " + inner, !Modifier.isPublic(inner.getModifiers()));
            c.holds("some twenty fields: " + inner, inner.getDeclaredFields().length <= 20);
            for (Method method : inner.getDeclaredMethods()) {
                boolean isOfFace = Arrays.stream(FACE).anyMatch(face -> face.contains(" " + method.getName() + "("));
                c.holds("no name of the face: " + method, !isOfFace);
                c.holds("at most seven parameters: " + method, method.getParameterCount() <= 7);
            }
        }
    }

    private static String withoutComments(String source) {
        return source.replaceAll("(?s)/\\*.*?\\*/", "").replaceAll("//[^\n]*", "");
    }

    private static void source(Check c) throws IOException {
        c.part("the source");
        String source = Files.readString(SOURCE);
        String code = withoutComments(source);
        for (String forbidden : FORBIDDEN) {
            c.holds("no " + forbidden, !Pattern.compile(forbidden, Pattern.MULTILINE).matcher(code).find());
        }
    }

    private static void lengths(Check c) throws IOException {
        c.part("lengths of methods");
        int start = 0;
        String indent = "";
        String[] lines = Files.readString(SOURCE).split("\n");
        for (int i = 0; i < lines.length; i++) {
            String line = lines[i];
            boolean opens = line.matches(" +[A-Za-z].*\\) \\{") && !line.matches(" +(if|for|while|switch|else)\\b.*");
            if (opens) {
                start = i;
                indent = line.substring(0, line.indexOf(line.trim()));
            } else if (line.equals(indent + "}")) {
                c.holds("short: " + lines[start].trim(), i - start <= 60);
            }
            c.holds("a line of at most 110: " + line, line.length() <= 110);
        }
    }

    private static int wild(Random random) {
        return random.nextBoolean() ? random.nextInt(12) : WILD[random.nextInt(WILD.length)];
    }

    private static void wildRun(Random random) {
        KilnPermits x = new KilnPermits();
        for (int i = 0; i < 3000; i++) {
            wildCall(x, random);
        }
    }

    private static void wildCall(KilnPermits x, Random random) {
        int a = wild(random);
        int b = wild(random);
        int d = wild(random);
        switch (random.nextInt(21)) {
            case 0 -> x.issue(a, b);
            case 1 -> x.fire(a, b, d);
            case 2 -> x.audit(a);
            case 3 -> x.bid(a, b, d);
            case 4 -> x.ask(a, b, d);
            case 5 -> x.orderAll();
            case 6 -> x.takeBack(a);
            case 7 -> x.buyReserve(a, b);
            case 8 -> x.borrow(a, b);
            case 9 -> x.set(a, b);
            case 10 -> x.endYear();
            case 11 -> x.type(random.nextBoolean() ? (char) a : "ab0123456789:@;".charAt(random.nextInt(15)));
            case 12 -> x.clearText();
            case 13 -> x.undo();
            case 14 -> x.keep();
            case 15 -> x.restore();
            case 16 -> x.kiln(a, b);
            case 17 -> x.ofYear(a, b);
            case 18 -> x.order(random.nextBoolean(), a, b);
            case 19 -> x.depth(random.nextBoolean(), a);
            default -> x.count(a);
        }
    }

    private static long bytesSoFar() {
        return ((com.sun.management.ThreadMXBean) java.lang.management.ManagementFactory.getThreadMXBean())
            .getCurrentThreadAllocatedBytes();
    }

    /** The dearest run: years upon years, with permits of all of them on their way. */
    private static void room(Check c) {
        c.part("room");
        bytesSoFar();
        long before = bytesSoFar();
        KilnPermits x = new KilnPermits();
        for (int year = 0; year < 120; year++) {
            x.issue(0, 9);
            x.ask(0, 5, 10);
            x.bid(1 + year % 5, 4, 10);
            x.endYear();
        }
        long afterYears = bytesSoFar();
        for (int i = 0; i < 32; i++) {
            x.keep();
        }
        long after = bytesSoFar();
        c.holds("a run takes little: " + (after - before), after - before < MOST_BYTES_OF_A_RUN);
        c.holds("rows are used again: " + (after - afterYears), after - afterYears < 200_000);
        before = bytesSoFar();
        KilnPermits y = new KilnPermits();
        y.issue(0, 500);
        for (int i = 0; i < 500; i++) {
            y.bid(1, 1, 10);
            y.ask(0, 1, 10);
        }
        after = bytesSoFar();
        c.holds("trades take none: " + (after - before), after - before < 200_000);
    }
}
