import java.io.IOException;
import java.lang.reflect.InvocationTargetException;
import java.lang.reflect.Method;
import java.lang.reflect.Modifier;
import java.nio.file.Files;
import java.nio.file.Path;
import java.util.Arrays;
import java.util.Set;
import java.util.TreeSet;
import java.util.regex.Matcher;
import java.util.regex.Pattern;

/** The examples of README.md: each call answers the number that stands behind it; and each call is named there. */
public final class ReadmeTest {
    private static final Path README = Path.of("README.md");
    private static final Pattern CALL = Pattern.compile("damper\\.(\\w+)\\((.*)\\); *// (-?\\d+)(:.*)?");

    public static void main(String[] args) throws IOException, ReflectiveOperationException {
        Check.due("the examples", runExamples(), 3);
        checkNames();
        Check.end();
    }

    private static int runExamples() throws IOException, ReflectiveOperationException {
        FlapDamper damper = null;
        int examples = 0;
        for (String line : Files.readAllLines(README)) {
            if (line.equals("FlapDamper damper = new FlapDamper();")) {
                damper = new FlapDamper();
                examples++;
            } else if (line.startsWith("damper.")) {
                runLine(damper, line);
            }
        }
        return examples;
    }

    private static void runLine(FlapDamper damper, String line) throws ReflectiveOperationException {
        Matcher call = CALL.matcher(line);
        Check.due("an example as it should be written: " + line, call.matches() ? 1 : 0, 1);
        if (call.matches()) {
            Check.due(line, answer(damper, call.group(1), call.group(2)), Long.parseLong(call.group(3)));
        }
    }

    private static int answer(FlapDamper damper, String name, String arguments)
            throws IllegalAccessException, InvocationTargetException, NoSuchMethodException {
        Object[] numbers = arguments.isEmpty() ? new Object[0]
            : Arrays.stream(arguments.split(", ")).map(ReadmeTest::number).toArray();
        Class<?>[] types = new Class<?>[numbers.length];
        Arrays.fill(types, int.class);
        return (int) FlapDamper.class.getMethod(name, types).invoke(damper, numbers);
    }

    private static Object number(String argument) {
        return argument.startsWith("'") ? (int) argument.charAt(1) : Integer.parseInt(argument);
    }

    private static void checkNames() throws IOException {
        String page = Files.readString(README);
        Set<String> missing = new TreeSet<>();
        for (Method method : FlapDamper.class.getDeclaredMethods()) {
            if (Modifier.isPublic(method.getModifiers()) && !page.contains(method.getName() + "(")) {
                missing.add(method.getName());
            }
        }
        Check.due("calls that the page does not name", missing.toString(), "[]");
    }
}
