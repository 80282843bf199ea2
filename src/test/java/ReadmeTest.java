import java.io.IOException;
import java.lang.reflect.InvocationTargetException;
import java.lang.reflect.Method;
import java.lang.reflect.Modifier;
import java.nio.charset.StandardCharsets;
import java.nio.file.Files;
import java.nio.file.Path;
import java.util.Set;
import java.util.TreeSet;
import java.util.regex.Matcher;
import java.util.regex.Pattern;

/** Runs the examples of README.md: each call must answer what stands beside it, and no call of the face is left out. */
public final class ReadmeTest {
    private static final String NEW_TABLE = "CuttingTable table = new CuttingTable();";
    private static final Pattern CALL =
        Pattern.compile("table\\.(\\w+)\\(([-0-9, ]*)\\); +// (throws \\w+|true|false|-?\\d+)(: .*)?");

    private static CuttingTable table;
    private static final Set<String> shown = new TreeSet<>();

    private static Method named(String name) {
        for (Method method : CuttingTable.class.getMethods()) {
            if (method.getName().equals(name) && method.getDeclaringClass() == CuttingTable.class) {
                return method;
            }
        }
        return null;
    }

    private static Object[] arguments(Method method, String words) {
        String[] numbers = words.isEmpty() ? new String[0] : words.split(", ");
        Class<?>[] types = method.getParameterTypes();
        Object[] arguments = new Object[numbers.length];
        for (int i = 0; i < numbers.length; i++) {
            boolean isLong = i < types.length && types[i] == long.class;
            if (isLong) {
                arguments[i] = Long.valueOf(numbers[i]);
            } else {
                arguments[i] = Integer.valueOf(numbers[i]);
            }
        }
        return arguments;
    }

    private static String answer(Method method, Object[] arguments) throws IllegalAccessException {
        try {
            return String.valueOf(method.invoke(table, arguments));
        } catch (InvocationTargetException e) {
            return "throws " + e.getCause().getClass().getSimpleName();
        }
    }

    private static void line(String line) throws IllegalAccessException {
        if (line.equals(NEW_TABLE)) {
            table = new CuttingTable();
            return;
        }
        Matcher call = CALL.matcher(line);
        Method method = call.matches() ? named(call.group(1)) : null;
        if (method == null || table == null) {
            Due.is("'" + line + "' is a call with its answer", false, true);
            return;
        }
        String got = answer(method, arguments(method, call.group(2)));
        Due.is("'" + line + "' answers " + got + "; as shown", got.equals(call.group(3)), true);
        shown.add(call.group(1));
    }

    public static void main(String[] args) throws IOException, IllegalAccessException {
        boolean inExample = false;
        for (String line : Files.readAllLines(Path.of("README.md"), StandardCharsets.UTF_8)) {
            if (line.startsWith("```")) {
                inExample = line.equals("```java");
                table = null;
            } else if (inExample) {
                line(line);
            }
        }
        for (Method method : CuttingTable.class.getDeclaredMethods()) {
            if (Modifier.isPublic(method.getModifiers())) {
                Due.is(method.getName() + "() is shown", shown.contains(method.getName()), true);
            }
        }
        Due.end();
    }
}
