import java.lang.reflect.Method;
import java.nio.file.Files;
import java.nio.file.Path;
import java.util.HashSet;
import java.util.Set;
import java.util.regex.Matcher;
import java.util.regex.Pattern;

/** The calls of README.md, each with the answer that stands behind it. */
public final class ReadmeTest {
    private static final Pattern CALL = Pattern.compile("x\\.(\\w+)\\(([^)]*)\\); *// (-?\\d+)(:.*)?");

    private static WineSpoon x;
    private static final Set<String> shown = new HashSet<>();

    public static void main(String[] args) throws Exception {
        boolean inJava = false;
        for (String line : Files.readAllLines(Path.of("README.md"))) {
            if (line.startsWith("```")) {
                inJava = line.equals("```java");
            } else if (inJava) {
                readLine(line);
            }
        }
        for (Method method : WineSpoon.class.getDeclaredMethods()) {
            boolean isPublic = java.lang.reflect.Modifier.isPublic(method.getModifiers());
            Check.isTrue(method.getName() + " is shown in README.md", !isPublic || shown.contains(method.getName()));
        }
        Check.close();
    }

    private static void readLine(String line) throws Exception {
        if (line.equals("WineSpoon x = new WineSpoon();")) {
            x = new WineSpoon();
            return;
        }
        Matcher call = CALL.matcher(line);
        boolean reads = call.matches();
        Check.isTrue("a call with its answer: " + line, reads);
        if (reads) {
            shown.add(call.group(1));
            Check.due(line, answer(call.group(1), call.group(2)), Long.parseLong(call.group(3)));
        }
    }

    private static long answer(String name, String told) throws Exception {
        String[] numbers = told.isBlank() ? new String[0] : told.split(", *");
        Object[] values = new Object[numbers.length];
        Class<?>[] types = new Class<?>[numbers.length];
        for (int k = 0; k < numbers.length; k++) {
            values[k] = Integer.valueOf(numbers[k]);
            types[k] = int.class;
        }
        return ((Number) WineSpoon.class.getMethod(name, types).invoke(x, values)).longValue();
    }
}
