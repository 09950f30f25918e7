import java.io.IOException;
import java.lang.reflect.Method;
import java.lang.reflect.Modifier;
import java.nio.file.Files;
import java.nio.file.Path;
import java.util.HashMap;
import java.util.Map;
import java.util.regex.Matcher;
import java.util.regex.Pattern;

/** README.md's example is run as it stands there, so that it can't fall behind the class. */
public final class ReadmeTest {
    private static final Check CHECK = new Check("ReadmeTest");
    private static final Pattern EXAMPLE = Pattern.compile("(?s)```java\n(.*?)```");
    private static final Pattern CALL =
            Pattern.compile("(?:int (\\w+) = )?x\\.(\\w+)\\(([^)]*)\\);\\s+// (-?\\d+|NONE)(?::.*)?");

    private final StateEnds x = new StateEnds();
    private final Map<String, Integer> names = new HashMap<>();
    private int calls = 0;

    public static void main(String[] args) throws IOException, ReflectiveOperationException {
        String readme = Files.readString(Path.of("README.md"));
        new ReadmeTest().example(readme);
        tableNamesEveryCall(readme);
        CHECK.end();
    }

    private void example(String readme) throws ReflectiveOperationException {
        CHECK.part("the example");
        Matcher example = EXAMPLE.matcher(readme);
        String text = example.find() ? example.group(1) : "";
        for (String line : text.split("\n")) {
            Matcher call = CALL.matcher(line);
            if (call.matches()) {
                make(line, call);
            } else {
                CHECK.holds("understood: " + line, line.isEmpty() || line.equals("StateEnds x = new StateEnds();"));
            }
        }
        CHECK.holds("the example makes calls", calls > 0);
    }

    private void make(String line, Matcher call) throws ReflectiveOperationException {
        String[] with = call.group(3).split(", ");
        Method method = methodOf(call.group(2));
        Object[] values = new Object[with.length];
        for (int i = 0; i < with.length; i++) {
            values[i] = valueOf(with[i], method.getParameterTypes()[i]);
        }
        int got = (Integer) method.invoke(x, values);
        CHECK.due(line, got, call.group(4).equals("NONE") ? StateEnds.NONE : Integer.parseInt(call.group(4)));
        if (call.group(1) != null) {
            names.put(call.group(1), got);
        }
        calls++;
    }

    private Object valueOf(String text, Class<?> type) {
        if (type == boolean.class) {
            return Boolean.valueOf(text);
        }
        return names.containsKey(text) ? names.get(text) : Integer.valueOf(text);
    }

    private static Method methodOf(String name) throws NoSuchMethodException {
        for (Method m : StateEnds.class.getDeclaredMethods()) {
            if (Modifier.isPublic(m.getModifiers()) && m.getName().equals(name)) {
                return m;
            }
        }
        throw new NoSuchMethodException(name);
    }

    private static void tableNamesEveryCall(String readme) {
        CHECK.part("the table");
        for (Method m : StateEnds.class.getDeclaredMethods()) {
            if (Modifier.isPublic(m.getModifiers())) {
                Matcher row = Pattern.compile("\n\\| `" + m.getName() + "\\(([^)]*)\\)` \\|").matcher(readme);
                int named = row.find() ? row.group(1).split(", ").length : 0;
                CHECK.due("the parameters of " + m.getName() + " in its line", named, m.getParameterCount());
            }
        }
    }
}
