import java.io.IOException;
import java.lang.reflect.Method;
import java.lang.reflect.Modifier;
import java.nio.file.Files;
import java.nio.file.Path;
import java.util.regex.Matcher;
import java.util.regex.Pattern;

/** README.md says how to use the class, and how to run its tests; what its example says is so. */
public final class ReadmeTest {
    private static final Path README = Path.of("README.md");
    private static final String COMMAND = ".ci/run";
    private static final Pattern MAKING =
        Pattern.compile("KeyedCells cells = new KeyedCells\\((-?\\d+), (-?\\d+), (-?\\d+)\\);.*");
    private static final Pattern CALL =
        Pattern.compile("cells\\.(\\w+)\\(([^)]*)\\); +// (-?\\d+|true|false)\\b.*");

    private ReadmeTest() {
    }

    /** From the heading to the next one of its kind; empty when there is no such heading. */
    private static String section(String text, String heading) {
        int from = text.indexOf("\n## " + heading + "\n");
        if (from < 0) {
            return "";
        }
        int to = text.indexOf("\n## ", from + 1);
        return to < 0 ? text.substring(from) : text.substring(from, to);
    }

    /** The first block of this kind; empty when there is none. */
    private static String block(String text, String kind) {
        String opening = "```" + kind + "\n";
        int from = text.indexOf(opening);
        int to = from < 0 ? -1 : text.indexOf("```", from + opening.length());
        return to < 0 ? "" : text.substring(from + opening.length(), to);
    }

    private static Method methodOf(String name) {
        for (Method method : KeyedCells.class.getDeclaredMethods()) {
            if (Modifier.isPublic(method.getModifiers()) && method.getName().equals(name)) {
                return method;
            }
        }
        throw new IllegalArgumentException("the class has no public " + name);
    }

    private static Object value(Class<?> type, String told) {
        if (type == boolean.class) {
            return Boolean.valueOf(told);
        }
        return type == long.class ? (Object) Long.valueOf(told) : (Object) Integer.valueOf(told);
    }

    private static Object[] values(Class<?>[] types, String told) {
        String[] parts = told.isEmpty() ? new String[0] : told.split(", ");
        Object[] values = new Object[parts.length];
        for (int i = 0; i < parts.length; i++) {
            values[i] = value(types[i], parts[i]);
        }
        return values;
    }

    private static void dueAnswer(KeyedCells cells, Matcher call) throws ReflectiveOperationException {
        Method method = methodOf(call.group(1));
        Object got = method.invoke(cells, values(method.getParameterTypes(), call.group(2)));
        Object want = value(method.getReturnType(), call.group(3));
        Check.due(call.group() + " (answered " + got + ") is so", got.equals(want), true);
    }

    private static void exampleIsSo(String example) throws ReflectiveOperationException {
        Check.due("the example has lines", example.isEmpty(), false);
        KeyedCells cells = null;
        for (String line : example.lines().toList()) {
            Matcher making = MAKING.matcher(line);
            Matcher call = CALL.matcher(line);
            if (making.matches()) {
                cells = new KeyedCells(Integer.parseInt(making.group(1)),
                    Integer.parseInt(making.group(2)), Integer.parseInt(making.group(3)));
            } else if (call.matches() && cells != null) {
                dueAnswer(cells, call);
            } else {
                Check.due("line of the example is a call with its answer: " + line, false, true);
            }
        }
    }

    private static void everyCallIsNamed(String use, String example) {
        for (Method method : KeyedCells.class.getDeclaredMethods()) {
            if (Modifier.isPublic(method.getModifiers())) {
                String name = method.getName();
                Check.due("the example calls " + name, example.contains("cells." + name + "("), true);
                Check.due("the list names " + name, use.contains("`" + name + "("), true);
            }
        }
        Check.due("the list names the constructor", use.contains("`new KeyedCells("), true);
    }

    private static void commandIsNamed(String tests) {
        Check.due("the command " + COMMAND + " stands under Tests", block(tests, "sh").strip().equals(COMMAND), true);
        Check.due(COMMAND + " can be run", Files.isExecutable(Path.of(COMMAND)), true);
    }

    public static void main(String[] args) throws IOException, ReflectiveOperationException {
        Check.due("README.md is there", Files.isRegularFile(README), true);
        if (Files.isRegularFile(README)) {
            String text = Files.readString(README);
            String use = section(text, "Use");
            exampleIsSo(block(use, "java"));
            everyCallIsNamed(use, block(use, "java"));
            commandIsNamed(section(text, "Tests"));
        }
        Check.end();
    }
}
