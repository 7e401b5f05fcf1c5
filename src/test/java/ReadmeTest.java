import java.io.IOException;
import java.lang.reflect.Method;
import java.nio.file.Files;
import java.nio.file.Path;
import java.util.Set;
import java.util.TreeSet;
import java.util.regex.Matcher;
import java.util.regex.Pattern;

/** Makes the calls of README.md's example and compares their answers with those that stand behind them. */
public final class ReadmeTest {
    private static final Pattern CALL =
            Pattern.compile("x\\.(\\w+)\\(([-0-9, ]*)\\); +// (true|false|-?[0-9]+)(: .*)?");
    private static final String START = "DeltaPlayfield x = new DeltaPlayfield();";

    private final Checks checks = new Checks();
    private final Set<String> called = new TreeSet<>();
    private DeltaPlayfield x;

    public static void main(String[] args) throws IOException, ReflectiveOperationException {
        new ReadmeTest().run();
    }

    private void run() throws IOException, ReflectiveOperationException {
        boolean inExample = false;
        for (String line : Files.readAllLines(Path.of("README.md"))) {
            if (line.startsWith("```")) {
                inExample = line.equals("```java");
            } else if (inExample) {
                follow(line);
            }
        }
        everyMethodIsShown();
        checks.end();
    }

    private void follow(String line) throws ReflectiveOperationException {
        Matcher call = CALL.matcher(line);
        if (line.equals(START)) {
            x = new DeltaPlayfield();
        } else if (x != null && call.matches()) {
            String text = call.group(1) + "(" + call.group(2) + ")";
            String got = answer(call.group(1), call.group(2));
            checks.yes("README: " + text + " answered " + got + ": " + line, got.equals(call.group(3)));
        } else {
            checks.yes("README: not a call with its answer: " + line, line.isEmpty() || line.startsWith("// "));
        }
    }

    private String answer(String name, String arguments) throws ReflectiveOperationException {
        String[] texts = arguments.isEmpty() ? new String[0] : arguments.split(", ");
        Class<?>[] types = new Class<?>[texts.length];
        Object[] values = new Object[texts.length];
        for (int i = 0; i < texts.length; i++) {
            types[i] = int.class;
            values[i] = Integer.valueOf(texts[i]);
        }
        called.add(name);
        return DeltaPlayfield.class.getMethod(name, types).invoke(x, values).toString();
    }

    private void everyMethodIsShown() {
        for (Method method : DeltaPlayfield.class.getMethods()) {
            if (method.getDeclaringClass() == DeltaPlayfield.class) {
                checks.yes("README shows " + method.getName(), called.contains(method.getName()));
            }
        }
    }
}
