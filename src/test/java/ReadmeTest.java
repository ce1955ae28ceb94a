import java.io.IOException;
import java.lang.reflect.InvocationTargetException;
import java.lang.reflect.Method;
import java.nio.charset.StandardCharsets;
import java.nio.file.Files;
import java.nio.file.Path;
import java.util.Set;
import java.util.TreeSet;
import java.util.regex.Matcher;
import java.util.regex.Pattern;

/** Every call that README.md shows answers what README.md says behind it. */
public final class ReadmeTest {
    private static final String NEW_DESK = "BoxDesk desk = new BoxDesk();";
    private static final Pattern CALL =
            Pattern.compile("desk\\.(\\w+)\\(([^)]*)\\); +// (throws \\w+|true|false|-?\\d+)(?:: .+)?");

    private final Checks checks = new Checks();
    private final Set<String> shown = new TreeSet<>();
    private Desk desk;

    private ReadmeTest() {
    }

    public static void main(String[] args) throws IOException, IllegalAccessException {
        ReadmeTest test = new ReadmeTest();
        test.read(Path.of("README.md"));
        test.everyMethodIsShown();
        test.checks.end();
    }

    private void read(Path readme) throws IOException, IllegalAccessException {
        boolean code = false;
        for (String line : Files.readAllLines(readme, StandardCharsets.UTF_8)) {
            if (line.startsWith("```")) {
                code = line.equals("```java");
            } else if (code) {
                take(line);
            }
        }
    }

    private void take(String line) throws IllegalAccessException {
        Matcher call = CALL.matcher(line);
        if (line.equals(NEW_DESK)) {
            desk = new Desk();
        } else if (desk != null && call.matches()) {
            shown.add(call.group(1));
            String written = call.group(1) + "(" + call.group(2) + ")";
            checks.sameText(written, answer(call.group(1), call.group(2).split(", ")), call.group(3));
        } else {
            checks.yes("a call with its answer: " + line, false);
        }
    }

    private String answer(String name, String[] written) throws IllegalAccessException {
        for (Method method : Desk.class.getDeclaredMethods()) {
            if (method.getName().equals(name) && method.getParameterCount() == written.length) {
                return answer(method, arguments(method.getParameterTypes(), written));
            }
        }
        return "no such method";
    }

    private String answer(Method method, Object[] arguments) throws IllegalAccessException {
        try {
            return String.valueOf(method.invoke(desk, arguments));
        } catch (InvocationTargetException e) {
            return "throws " + e.getCause().getClass().getSimpleName();
        }
    }

    private static Object[] arguments(Class<?>[] types, String[] written) {
        Object[] arguments = new Object[types.length];
        for (int i = 0; i < types.length; i++) {
            if (types[i] == boolean.class) {
                arguments[i] = written[i].equals("true");
            } else {
                arguments[i] = Integer.valueOf(written[i]);
            }
        }
        return arguments;
    }

    private void everyMethodIsShown() {
        for (Method method : BoxDesk.class.getMethods()) {
            if (method.getDeclaringClass() == BoxDesk.class) {
                checks.yes("README.md shows " + method.getName(), shown.contains(method.getName()));
            }
        }
    }
}
