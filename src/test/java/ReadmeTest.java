import java.io.IOException;
import java.lang.reflect.Method;
import java.lang.reflect.Modifier;
import java.nio.file.Files;
import java.nio.file.Path;
import java.util.ArrayList;
import java.util.HashMap;
import java.util.HashSet;
import java.util.List;
import java.util.Map;
import java.util.Set;
import java.util.regex.Matcher;
import java.util.regex.Pattern;

/** README.md's example is called line by line; it and the tables must leave no call of the class out. */
public final class ReadmeTest {
    private static final String FIRST = "DeclarativeRows rows = new DeclarativeRows();";
    // [type name =] rows.call(arguments); // answer[: text]
    private static final Pattern LINE = Pattern.compile(
        "(?:(\\w+) (\\w+) = )?rows\\.(\\w+)\\(([^()]*)\\);\\s*// (-?\\d+|true|false)(?:: .+)?");

    private static final DeclarativeRows rows = new DeclarativeRows();
    private static final Map<String, Object> named = new HashMap<>();
    private static final Set<String> called = new HashSet<>();
    private static int wrong = 0;

    public static void main(String[] args) throws IOException, ReflectiveOperationException {
        List<String> readme = Files.readAllLines(Path.of("README.md"));
        List<String> example = example(readme);
        if (example.isEmpty() || !example.get(0).equals(FIRST)) {
            fault("the example does not begin with " + FIRST);
        }
        for (int i = 1; i < example.size(); i++) {
            callLine(example.get(i));
        }
        for (Method m : DeclarativeRows.class.getDeclaredMethods()) {
            nothingIsLeftOut(m, readme);
        }
        System.out.println(wrong == 0 ? "README.md tells the class's answers" : wrong + " faults of README.md");
        if (wrong != 0) {
            System.exit(1);
        }
    }

    private static void fault(String text) {
        wrong++;
        System.out.println(text);
    }

    private static List<String> example(List<String> readme) {
        List<String> lines = new ArrayList<>();
        boolean inside = false;
        for (String line : readme) {
            if (line.startsWith("```")) {
                inside = line.equals("```java");
            } else if (inside) {
                lines.add(line);
            }
        }
        return lines;
    }

    private static void callLine(String line) throws ReflectiveOperationException {
        Matcher parts = LINE.matcher(line);
        if (!parts.matches()) {
            fault("this line has no call with an answer: " + line);
            return;
        }
        Method call = method(parts.group(3));
        if (call == null) {
            fault("there is no such call: " + line);
            return;
        }
        called.add(call.getName());
        Object got = call.invoke(rows, values(parts.group(4)));
        if (!got.equals(value(parts.group(5)))) {
            fault(line + " .. answered " + got);
        }
        if (parts.group(2) != null) {
            name(parts.group(1), parts.group(2), call, got);
        }
    }

    private static void name(String type, String name, Method call, Object got) {
        if (!type.equals(call.getReturnType().getName())) {
            fault(name + " has not the type of " + call.getName());
        }
        if (named.put(name, got) != null) {
            fault(name + " is there already");
        }
    }

    private static Method method(String name) {
        for (Method m : DeclarativeRows.class.getMethods()) {
            if (m.getDeclaringClass() == DeclarativeRows.class && m.getName().equals(name)) {
                return m;
            }
        }
        return null;
    }

    private static Object[] values(String list) {
        if (list.isEmpty()) {
            return new Object[0];
        }
        String[] texts = list.split(", ");
        Object[] found = new Object[texts.length];
        for (int i = 0; i < texts.length; i++) {
            found[i] = value(texts[i]);
        }
        return found;
    }

    private static Object value(String text) {
        if (named.containsKey(text)) {
            return named.get(text);
        }
        if (text.equals("true") || text.equals("false")) {
            return Boolean.valueOf(text);
        }
        return Integer.valueOf(text);
    }

    private static void nothingIsLeftOut(Method m, List<String> readme) {
        if (!Modifier.isPublic(m.getModifiers())) {
            return;
        }
        if (!called.contains(m.getName())) {
            fault("the example does not call " + m.getName());
        }
        // A table's row tells the call with its types and the names of its parameters.
        StringBuilder row = new StringBuilder("\\| `" + m.getReturnType().getName() + " " + m.getName() + "\\(");
        for (int i = 0; i < m.getParameterCount(); i++) {
            row.append(i > 0 ? ", " : "").append(m.getParameterTypes()[i].getName()).append(" \\w+");
        }
        row.append("\\)` \\| .+");
        if (readme.stream().filter(line -> line.matches(row.toString())).count() != 1) {
            fault("the tables have not one row for " + m.getName());
        }
    }
}
