import java.io.IOException;
import java.lang.reflect.Field;
import java.lang.reflect.Method;
import java.lang.reflect.Modifier;
import java.nio.file.Files;
import java.nio.file.Path;
import java.util.ArrayList;
import java.util.HashSet;
import java.util.List;
import java.util.Set;
import java.util.regex.Matcher;
import java.util.regex.Pattern;

/** Those rules of LANGUAGE.md that can be read off the class or its text; the number is the rule's. */
final class LanguageTest {
    private static final Path SOURCE = Path.of("src/main/java/SharedFibre.java");
    // Narrower than the rules: what the class has no need of is refused here altogether.
    private static final Pattern REFUSED = Pattern.compile(
            "\\b(package|import|synchronized|assert|finally|transient|volatile|native|System|Thread|Object)\\b|->|::");
    private static final Pattern THROWN = Pattern.compile("\\bthrow\\b(?! new (IllegalArgumentException"
            + "|IllegalStateException|IndexOutOfBoundsException)\\(\"[^\"]*\"\\);)");
    private static final Pattern LIBRARY = Pattern.compile("\\bMath\\.(?!(abs|max|min)\\()");

    public static void main(String[] args) throws IOException {
        Check check = new Check();
        List<Class<?>> classes = new ArrayList<>(List.of(SharedFibre.class));
        classes.addAll(List.of(SharedFibre.class.getDeclaredClasses()));
        check.is("11: at most twelve classes", classes.size() <= 12 ? 1 : 0, 1);
        for (Class<?> c : classes) {
            checkClass(check, c);
        }
        checkNames(check);
        checkText(check, Files.readAllLines(SOURCE));
        check.end();
    }

    private static void checkClass(Check check, Class<?> c) {
        int modifiers = c.getModifiers();
        boolean inside = c != SharedFibre.class;
        if (inside && (!Modifier.isStatic(modifiers) || Modifier.isPublic(modifiers) || Modifier.isProtected(modifiers))) {
            check.text("1: " + c, Modifier.toString(modifiers), "private or package-visible, and static");
        }
        int fields = 0;
        for (Field f : c.getDeclaredFields()) {
            if (!Modifier.isStatic(f.getModifiers())) {
                fields++;
            } else if (!Modifier.isFinal(f.getModifiers())) {
                check.text("5: a static field", f.toString(), "final");
            }
        }
        check.is("11: at most twenty fields in " + c, fields <= 20 ? 1 : 0, 1);
        for (Method m : c.getDeclaredMethods()) {
            check.is("11: at most seven parameters of " + m, m.getParameterCount() <= 7 ? 1 : 0, 1);
        }
    }

    private static void checkNames(Check check) {
        Set<String> open = new HashSet<>();
        for (Method m : SharedFibre.class.getMethods()) {
            open.add(m.getName());
        }
        for (Method m : SharedFibre.class.getDeclaredMethods()) {
            if (Modifier.isPrivate(m.getModifiers())) {
                check.is("1: " + m + " bears a public name", open.contains(m.getName()) ? 1 : 0, 0);
            }
        }
    }

    private static void checkText(Check check, List<String> lines) {
        int methodLines = 0;
        boolean comment = false;
        for (String line : lines) {
            comment = comment || line.trim().startsWith("/**");
            if (!comment) {
                String code = line.replaceFirst("//.*", "");
                refuse(check, "3, 4, 6, 12 or 13", REFUSED, code);
                refuse(check, "6", THROWN, code);
                refuse(check, "4", LIBRARY, code);
                // Blank lines stand between methods and nowhere inside one.
                methodLines = code.isBlank() ? 0 : methodLines + 1;
                check.is("11: some sixty lines at most, to " + line, methodLines <= 60 ? 1 : 0, 1);
            }
            comment = comment && !line.contains("*/");
        }
    }

    private static void refuse(Check check, String rule, Pattern refused, String code) {
        Matcher found = refused.matcher(code);
        if (found.find()) {
            check.text(rule + ": a line", code.trim(), "without " + found.group());
        }
    }
}
