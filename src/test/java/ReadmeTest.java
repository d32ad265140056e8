import java.lang.reflect.Method;
import java.lang.reflect.Modifier;
import java.nio.file.Files;
import java.nio.file.Path;
import java.util.List;
import java.util.regex.Matcher;
import java.util.regex.Pattern;

/** README.md: the answers behind the calls of its examples, and its table of calls. */
public final class ReadmeTest {
    private static final String NEW_OBJECT = "PaletteBuilder builder = new PaletteBuilder();";
    private static final Pattern CALL = Pattern.compile("builder\\.(\\w+)\\((.*?)\\);\\s+// (-?\\d+).*");

    private static int wrong = 0;
    private static int calls = 0;

    private static void fail(String what) {
        wrong++;
        System.out.println(what);
    }

    private static Method method(String name) {
        for (Method method : PaletteBuilder.class.getDeclaredMethods()) {
            if (Modifier.isPublic(method.getModifiers()) && method.getName().equals(name)) {
                return method;
            }
        }
        throw new IllegalArgumentException("no call is named " + name);
    }

    private static Object argument(String written, Class<?> type) throws ReflectiveOperationException {
        if (type == boolean.class) {
            return Boolean.valueOf(written);
        }
        if (written.startsWith("'")) {
            return (int) written.charAt(1);
        }
        if (written.startsWith("PaletteBuilder.")) {
            return PaletteBuilder.class.getField(written.substring("PaletteBuilder.".length())).getInt(null);
        }
        return Integer.decode(written);
    }

    private static long answer(PaletteBuilder builder, String name, String written) throws ReflectiveOperationException {
        Method method = method(name);
        Class<?>[] types = method.getParameterTypes();
        String[] parts = written.isEmpty() ? new String[0] : written.split(", ");
        Object[] arguments = new Object[types.length];
        for (int i = 0; i < types.length; i++) {
            arguments[i] = argument(parts[i], types[i]);
        }
        return ((Number) method.invoke(builder, arguments)).longValue();
    }

    private static void runExamples(List<String> lines) throws ReflectiveOperationException {
        PaletteBuilder builder = null;
        for (String line : lines) {
            if (line.equals(NEW_OBJECT)) {
                builder = new PaletteBuilder();
            } else if (line.startsWith("builder.")) {
                Matcher call = CALL.matcher(line);
                if (!call.matches()) {
                    fail("no answer stands behind: " + line);
                    continue;
                }
                calls++;
                long got = answer(builder, call.group(1), call.group(2));
                if (got != Long.parseLong(call.group(3))) {
                    fail("answered " + got + ": " + line);
                }
            }
        }
    }

    private static void lookAtTable(List<String> lines) {
        StringBuilder table = new StringBuilder();
        for (String line : lines) {
            if (line.startsWith("| ")) {
                table.append(line);
            }
        }
        for (Method method : PaletteBuilder.class.getDeclaredMethods()) {
            String name = method.getName();
            if (Modifier.isPublic(method.getModifiers()) && table.indexOf("`" + name + "`") < 0) {
                fail("the table does not name " + name);
            }
        }
    }

    public static void main(String[] args) throws Exception {
        List<String> lines = Files.readAllLines(Path.of("README.md"));
        runExamples(lines);
        lookAtTable(lines);
        if (calls == 0) {
            fail("README.md has no example");
        }
        System.out.println(wrong == 0 ? "README.md holds, with " + calls + " calls" : wrong + " lines do not hold");
        if (wrong != 0) {
            System.exit(1);
        }
    }
}
