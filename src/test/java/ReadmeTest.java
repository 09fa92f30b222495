import java.io.IOException;
import java.lang.reflect.Method;
import java.nio.file.Files;
import java.nio.file.Path;
import java.util.List;
import java.util.regex.Matcher;
import java.util.regex.Pattern;

/** README.md tells what holds: its example is run call by call, and its table of forms is read. */
public final class ReadmeTest {
    private static final Pattern TELL = Pattern.compile("tell\\(q, \"(.*)\"\\);");
    private static final Pattern CALL = Pattern.compile("(q\\.(\\w+)\\((.*)\\);) *// (-?[0-9]+|true|false)\\b.*");
    private static final Pattern FORMS = Pattern.compile("\\| ([0-5]) .* \\| `(.*)` \\| `(.*)` \\|");

    public static void main(String[] args) throws IOException, ReflectiveOperationException {
        List<String> lines = Files.readAllLines(Path.of("README.md"));
        dueExample(lines);
        dueForms(lines);
        dueCalls(lines);
        Steps.end();
    }

    private static void dueExample(List<String> lines) throws ReflectiveOperationException {
        QuerySteps q = new QuerySteps();
        int calls = 0;
        for (String line : lines) {
            Matcher tell = TELL.matcher(line);
            Matcher call = CALL.matcher(line);
            if (tell.matches()) {
                tell.group(1).chars().forEach(q::sign);
            } else if (call.matches()) {
                calls++;
                String got = String.valueOf(answer(q, call.group(2), call.group(3)));
                Steps.due(call.group(1) + ": " + got + ", README: " + call.group(4), got.equals(call.group(4)), true);
            } else {
                Steps.due("a call without an answer: " + line, line.startsWith("q."), false);
            }
        }
        Steps.due("calls of the example", calls > 20, true);
    }

    private static Object answer(QuerySteps q, String name, String list) throws ReflectiveOperationException {
        Object[] arguments = list.isEmpty() ? new Object[0]
                : Pattern.compile(", ").splitAsStream(list).map(ReadmeTest::argument).toArray();
        return method(name).invoke(q, arguments);
    }

    private static Method method(String name) throws NoSuchMethodException {
        for (Method m : QuerySteps.class.getMethods()) {
            if (m.getName().equals(name)) {
                return m;
            }
        }
        throw new NoSuchMethodException(name);
    }

    private static Object argument(String text) {
        if (text.equals("true") || text.equals("false")) {
            return text.equals("true");
        }
        if (text.endsWith("L")) {
            return Long.parseLong(text.substring(0, text.length() - 1));
        }
        return Integer.parseInt(text);
    }

    private static void dueForms(List<String> lines) {
        int sorts = 0;
        for (String line : lines) {
            Matcher m = FORMS.matcher(line);
            if (m.matches()) {
                Steps s = new Steps("year", "title");
                s.saved(0, 0, m.group(2));
                s.saved(1, 1, m.group(3));
                Steps.due("sort of " + m.group(2), s.q.node(0, 0), Integer.parseInt(m.group(1)));
                Steps.due("same of " + m.group(2) + " and " + m.group(3), s.q.same(0, 1), true);
                Steps.due("sorts in the order of their numbers", sorts, Integer.parseInt(m.group(1)));
                sorts++;
            }
        }
        Steps.due("sorts in the table of forms", sorts, 6);
    }

    /** Each call of the face is told of. */
    private static void dueCalls(List<String> lines) {
        for (Method m : QuerySteps.class.getDeclaredMethods()) {
            boolean isPublic = java.lang.reflect.Modifier.isPublic(m.getModifiers());
            boolean isTold = lines.stream().anyMatch(line -> line.startsWith("| `" + m.getName() + "("));
            Steps.due("README tells of " + m.getName(), isTold, isPublic);
        }
    }
}
