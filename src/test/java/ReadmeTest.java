import java.io.IOException;
import java.lang.reflect.InvocationTargetException;
import java.lang.reflect.Method;
import java.nio.file.Files;
import java.nio.file.Path;
import java.util.ArrayList;
import java.util.HashSet;
import java.util.List;
import java.util.Set;
import java.util.regex.Matcher;
import java.util.regex.Pattern;

/** The calls that README.md shows, made as they stand there, answer what it says. */
final class ReadmeTest {
    private static final String FIRST = "SharedFibre x = new SharedFibre();";
    private static final Pattern CALL =
            Pattern.compile("x\\.(\\w+)\\((.*)\\); +// (nothing|-?\\d+|throws \\w+): \\S.*");

    public static void main(String[] args) throws IOException, IllegalAccessException {
        Check check = new Check();
        List<String> lines = shownLines(Files.readAllLines(Path.of("README.md")));
        check.text("the first line", lines.isEmpty() ? "none" : lines.get(0), FIRST);
        SharedFibre x = new SharedFibre();
        Set<String> used = new HashSet<>();
        for (int i = 1; i < lines.size(); i++) {
            Matcher call = CALL.matcher(lines.get(i));
            if (call.matches()) {
                used.add(call.group(1));
                check.text("README.md: " + lines.get(i), answer(x, call.group(1), call.group(2)), call.group(3));
            } else {
                check.text("README.md", lines.get(i), "a call with its answer");
            }
        }
        for (Method m : SharedFibre.class.getMethods()) {
            if (m.getDeclaringClass() == SharedFibre.class) {
                check.is("README.md shows a call of " + m.getName(), used.contains(m.getName()) ? 1 : 0, 1);
            }
        }
        check.end();
    }

    /** What stands in the document's blocks of Java. */
    private static List<String> shownLines(List<String> document) {
        List<String> shown = new ArrayList<>();
        boolean inside = false;
        for (String line : document) {
            if (line.startsWith("```")) {
                inside = line.equals("```java");
            } else if (inside) {
                shown.add(line);
            }
        }
        return shown;
    }

    private static String answer(SharedFibre x, String name, String written) throws IllegalAccessException {
        for (Method m : SharedFibre.class.getMethods()) {
            if (m.getName().equals(name)) {
                return answer(x, m, written.isEmpty() ? new String[0] : written.split(", "));
            }
        }
        return "no such method";
    }

    private static String answer(SharedFibre x, Method m, String[] written) throws IllegalAccessException {
        Class<?>[] types = m.getParameterTypes();
        if (types.length != written.length) {
            return "no such parameters";
        }
        Object[] values = new Object[types.length];
        for (int i = 0; i < types.length; i++) {
            values[i] = types[i] == boolean.class ? (Object) written[i].equals("true") : Integer.valueOf(written[i]);
        }
        try {
            Object answer = m.invoke(x, values);
            return answer == null ? "nothing" : answer.toString();
        } catch (InvocationTargetException e) {
            return "throws " + e.getCause().getClass().getSimpleName();
        }
    }
}
