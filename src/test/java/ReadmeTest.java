import java.io.IOException;
import java.lang.reflect.InvocationTargetException;
import java.lang.reflect.Method;
import java.lang.reflect.Modifier;
import java.nio.charset.StandardCharsets;
import java.nio.file.Files;
import java.nio.file.Path;
import java.util.ArrayList;
import java.util.HashMap;
import java.util.List;
import java.util.Map;
import java.util.regex.Matcher;
import java.util.regex.Pattern;

/** README.md: its example answers as it says, and its table has each call once, in the document's group. */
public final class ReadmeTest {
    private static final Path README = Path.of("README.md");
    private static final Path DOC = Path.of("../shared/DOC.md");
    // a line of the example: x.call(1, 2);   // 3: words
    private static final Pattern CALL = Pattern.compile("x\\.(\\w+)\\(([^)]*)\\);\\s*// (-?\\d+): .*");
    // a line of the document: Ahead of the calls `a`, `b` the interface says: ---- a group.
    private static final Pattern GROUP = Pattern.compile("Ahead of the calls (.*) the interface says: ---- (.*)\\.");
    private static final Pattern NAME = Pattern.compile("`(\\w+)`");

    private static final Map<String, Method> FACE = new HashMap<>();

    public static void main(String[] args) throws IOException, ReflectiveOperationException {
        for (Method method : RingInSand.class.getDeclaredMethods()) {
            if (Modifier.isPublic(method.getModifiers())) {
                FACE.put(method.getName(), method);
            }
        }
        List<String> lines = Files.readAllLines(README, StandardCharsets.UTF_8);
        example(lines);
        table(lines);
        Due.end("ReadmeTest");
    }

    private static void example(List<String> lines) throws ReflectiveOperationException {
        RingInSand x = new RingInSand();
        int calls = 0;
        for (String line : lines) {
            Matcher call = CALL.matcher(line);
            Due.holds("an example tells its answer: " + line, call.matches() || !line.startsWith("x."));
            if (call.matches()) {
                Due.is(line, answer(x, call.group(1), call.group(2)), Long.parseLong(call.group(3)));
                calls++;
            }
        }
        Due.holds("there is an example", calls > 0);
    }

    private static long answer(RingInSand x, String name, String numbers)
            throws IllegalAccessException, InvocationTargetException {
        List<Object> given = new ArrayList<>();
        for (String number : numbers.isEmpty() ? new String[0] : numbers.split(", ")) {
            given.add(Integer.parseInt(number));
        }
        return ((Number) FACE.get(name).invoke(x, given.toArray())).longValue();
    }

    private static void table(List<String> lines) throws IOException {
        int calls = 0;
        for (String line : Files.readAllLines(DOC, StandardCharsets.UTF_8)) {
            Matcher group = GROUP.matcher(line);
            if (group.matches()) {
                List<String> due = names(group.group(1));
                Due.holds("the table's " + group.group(2) + " is " + due, due.equals(row(lines, group.group(2))));
                calls += due.size();
            }
        }
        Due.is("calls of the groups", calls, FACE.size());
    }

    private static List<String> row(List<String> lines, String group) {
        for (String line : lines) {
            String[] parts = line.split(" \\| |^\\| ");
            if (parts.length > 2 && parts[1].equals(group)) {
                return names(parts[2]);
            }
        }
        return List.of();
    }

    private static List<String> names(String text) {
        List<String> names = new ArrayList<>();
        Matcher name = NAME.matcher(text);
        while (name.find()) {
            names.add(name.group(1));
        }
        return names;
    }
}
