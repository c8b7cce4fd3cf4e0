import java.io.IOException;
import java.lang.reflect.Constructor;
import java.lang.reflect.InvocationTargetException;
import java.lang.reflect.Method;
import java.lang.reflect.Modifier;
import java.nio.file.Files;
import java.nio.file.Path;
import java.util.ArrayList;
import java.util.HashMap;
import java.util.List;
import java.util.Map;
import java.util.Set;
import java.util.TreeSet;
import java.util.regex.Matcher;
import java.util.regex.Pattern;

/** README.md has a heading for every call of the face, and its example answers as it says. */
public final class ReadmeTest {
    private static final Check CHECK = new Check("ReadmeTest");
    private static final Pattern HEADING = Pattern.compile("### `(.*)`");

    // A name for the answer or none, the call, its arguments, the answer, a reason in brackets or none.
    private static final Pattern EXAMPLE = Pattern.compile(
            "(?:int (\\w+) = )?picker\\.(\\w+)\\((.*)\\); *// ([^(]+?)(?: \\(.*\\))?");

    private final ChainPicker picker = new ChainPicker();
    private final Map<String, Object> named = new HashMap<>();
    private final Set<String> called = new TreeSet<>();

    private ReadmeTest() {
        named.put("NONE", ChainPicker.NONE);
        named.put("ChainPicker.NONE", ChainPicker.NONE);
        named.put("true", true);
        named.put("false", false);
    }

    public static void main(String[] args) throws IOException, IllegalAccessException {
        List<String> lines = Files.readAllLines(Path.of("README.md"));
        everyCallHasItsHeading(lines);
        new ReadmeTest().exampleAnswersAsItSays(exampleIn(lines));
        CHECK.finish();
    }

    private static void everyCallHasItsHeading(List<String> lines) {
        Set<String> headings = new TreeSet<>();
        for (String line : lines) {
            Matcher heading = HEADING.matcher(line);
            if (heading.matches()) {
                // The machine knows the parameters' types, not their names.
                headings.add(heading.group(1).replaceAll("\\b(int|boolean) \\w+(?=[,)])", "$1"));
            }
        }
        CHECK.same("headings", headings.toString(), face().toString());
    }

    private static Set<String> face() {
        Set<String> face = new TreeSet<>();
        for (Constructor<?> made : ChainPicker.class.getConstructors()) {
            face.add("ChainPicker" + types(made.getParameterTypes()));
        }
        for (Method method : ChainPicker.class.getDeclaredMethods()) {
            if (Modifier.isPublic(method.getModifiers())) {
                face.add(signature(method));
            }
        }
        return face;
    }

    private static String signature(Method method) {
        String text = method.getReturnType().getSimpleName() + " " + method.getName()
                + types(method.getParameterTypes());
        for (Class<?> thrown : method.getExceptionTypes()) {
            text += " throws " + thrown.getSimpleName();
        }
        return text;
    }

    private static String types(Class<?>[] types) {
        List<String> names = new ArrayList<>();
        for (Class<?> type : types) {
            names.add(type.getSimpleName());
        }
        return "(" + String.join(", ", names) + ")";
    }

    /** The lines of the one block of Java, but for the empty ones and the one that makes the object. */
    private static List<String> exampleIn(List<String> lines) {
        int from = lines.indexOf("```java");
        int to = lines.lastIndexOf("```");
        CHECK.yes("README.md has one example", from >= 0 && from < to);
        List<String> example = new ArrayList<>(lines.subList(from + 1, to));
        CHECK.yes("the object is made", example.remove("ChainPicker picker = new ChainPicker();"));
        example.removeIf(String::isBlank);
        return example;
    }

    private void exampleAnswersAsItSays(List<String> example) throws IllegalAccessException {
        for (String line : example) {
            Matcher parts = EXAMPLE.matcher(line);
            CHECK.yes("can be read: " + line, parts.matches());
            if (parts.matches()) {
                runLine(line, parts);
            }
        }
        Set<String> all = new TreeSet<>();
        for (Method method : ChainPicker.class.getDeclaredMethods()) {
            if (Modifier.isPublic(method.getModifiers())) {
                all.add(method.getName());
            }
        }
        CHECK.same("the example's calls", called.toString(), all.toString());
    }

    private void runLine(String line, Matcher parts) throws IllegalAccessException {
        called.add(parts.group(2));
        Object answer = call(parts.group(2), parts.group(3).split(", "));
        if (parts.group(1) != null) {
            named.put(parts.group(1), answer);
        }
        Object due = named.getOrDefault(parts.group(4), parts.group(4));
        CHECK.same(line, answer.toString(), due.toString());
    }

    private Object call(String name, String[] arguments) throws IllegalAccessException {
        Object[] values = new Object[arguments.length];
        for (int i = 0; i < values.length; i++) {
            Object value = named.get(arguments[i]);
            values[i] = value == null ? Integer.valueOf(arguments[i]) : value;
        }
        try {
            return methodOf(name).invoke(picker, values);
        } catch (InvocationTargetException e) {
            return "throws " + e.getCause().getClass().getSimpleName();
        }
    }

    private static Method methodOf(String name) {
        for (Method method : ChainPicker.class.getDeclaredMethods()) {
            if (method.getName().equals(name)) {
                return method;
            }
        }
        throw new AssertionError("README.md calls " + name + ", which is not there");
    }
}
