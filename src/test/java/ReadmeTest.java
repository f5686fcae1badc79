import java.io.IOException;
import java.lang.reflect.Method;
import java.lang.reflect.Modifier;
import java.nio.file.Files;
import java.nio.file.Path;
import java.util.List;
import java.util.Set;
import java.util.TreeSet;
import java.util.regex.Matcher;
import java.util.regex.Pattern;

/** What README.md shows as calls and answers is what the class answers, and each call of the class is in it. */
public final class ReadmeTest {
    private static final String NEW_OBJECT = "TaskBuild x = new TaskBuild();";
    private static final Pattern CALL = Pattern.compile("x\\.(\\w+)\\(([^()]*)\\); +// (-?\\d+)(:.*)?");
    private static final Due due = new Due();

    private final Set<String> shown = new TreeSet<>();
    private TaskBuild x;

    private ReadmeTest() {
    }

    public static void main(String[] args) throws IOException, ReflectiveOperationException {
        List<String> lines = Files.readAllLines(Path.of("README.md"));
        ReadmeTest test = new ReadmeTest();
        test.examples(lines);
        test.everyCallIsTold(lines);
        due.end();
    }

    private void examples(List<String> lines) throws ReflectiveOperationException {
        boolean inside = false;
        for (int n = 0; n < lines.size(); n++) {
            due.part("README.md, line " + (n + 1));
            String line = lines.get(n);
            if (line.startsWith("```")) {
                inside = line.equals("```java");
            } else if (inside && !line.isBlank()) {
                example(line);
            }
        }
    }

    private void example(String line) throws ReflectiveOperationException {
        Matcher call = CALL.matcher(line);
        if (line.equals(NEW_OBJECT)) {
            x = new TaskBuild();
        } else if (x != null && call.matches()) {
            Method method = methodOf(call.group(1));
            due.holds("there is no " + call.group(1) + "()", method != null);
            if (method != null) {
                shown.add(method.getName());
                Object answer = method.invoke(x, arguments(method, call.group(2)));
                due.is(call.group(1) + "(" + call.group(2) + ")", (Integer) answer, Long.parseLong(call.group(3)));
            }
        } else {
            due.holds("neither a new object nor a call with its answer: " + line, false);
        }
    }

    private static Method methodOf(String name) {
        for (Method method : TaskBuild.class.getDeclaredMethods()) {
            if (Modifier.isPublic(method.getModifiers()) && method.getName().equals(name)) {
                return method;
            }
        }
        return null;
    }

    private static Object[] arguments(Method method, String text) {
        String[] words = text.isEmpty() ? new String[0] : text.split(", ");
        Class<?>[] types = method.getParameterTypes();
        due.is("arguments", words.length, types.length);
        Object[] values = new Object[words.length];
        for (int i = 0; i < words.length && i < types.length; i++) {
            values[i] = value(types[i], words[i]);
        }
        return values;
    }

    private static Object value(Class<?> type, String word) {
        if (type == boolean.class) {
            due.holds(word + " is true or false", word.equals("true") || word.equals("false"));
            return word.equals("true");
        }
        if (type == long.class) {
            return Long.parseLong(word);
        }
        return Integer.parseInt(word);
    }

    private void everyCallIsTold(List<String> lines) {
        for (Method method : TaskBuild.class.getDeclaredMethods()) {
            if (Modifier.isPublic(method.getModifiers())) {
                due.part("README.md, " + method.getName() + "()");
                due.holds("no example shows it", shown.contains(method.getName()));
                due.is("rows that tell it", rowsOf(method, lines), 1);
            }
        }
    }

    /** A row of the table of calls, with the types of the parameters as they are. */
    private static long rowsOf(Method method, List<String> lines) {
        StringBuilder row = new StringBuilder("\\| `").append(method.getName()).append("\\(");
        Class<?>[] types = method.getParameterTypes();
        for (int i = 0; i < types.length; i++) {
            row.append(i == 0 ? "" : ", ").append(types[i].getSimpleName()).append(" \\w+");
        }
        Pattern start = Pattern.compile(row.append("\\)` \\|.*").toString());
        return lines.stream().filter(line -> start.matcher(line).matches()).count();
    }
}
