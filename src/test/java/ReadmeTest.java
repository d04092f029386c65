import java.io.IOException;
import java.lang.reflect.Method;
import java.lang.reflect.Modifier;
import java.nio.file.Files;
import java.nio.file.Path;
import java.util.Arrays;
import java.util.List;
import java.util.Set;
import java.util.TreeSet;
import java.util.regex.Matcher;
import java.util.regex.Pattern;

/** The example in README.md, run line by line: it answers what it says, and has every method. */
public final class ReadmeTest {
    private static final Pattern MADE = Pattern.compile("OnlineHull hull = new OnlineHull\\((-?\\d+)\\);.*");
    private static final Pattern CALLED = Pattern.compile("hull\\.(\\w+)\\((.*?)\\);\\s*// (-?\\w+)(:.*)?");

    private static final Due due = new Due();
    private static final Set<String> called = new TreeSet<>();
    private static OnlineHull hull;

    public static void main(String[] args) throws IOException, ReflectiveOperationException {
        due.part("README.md");
        for (String line : example()) {
            runLine(line);
        }
        for (Method method : OnlineHull.class.getDeclaredMethods()) {
            if (Modifier.isPublic(method.getModifiers())) {
                due.holds("the example has " + method.getName(), called.contains(method.getName()));
            }
        }
        due.end();
    }

    private static List<String> example() throws IOException {
        List<String> lines = Files.readAllLines(Path.of("README.md"));
        int start = lines.indexOf("```java") + 1;
        List<String> rest = lines.subList(start, lines.size());
        return rest.subList(0, rest.indexOf("```"));
    }

    private static void runLine(String line) throws ReflectiveOperationException {
        Matcher made = MADE.matcher(line);
        Matcher call = CALLED.matcher(line);
        if (made.matches()) {
            hull = new OnlineHull(Integer.parseInt(made.group(1)));
        } else if (call.matches() && hull != null) {
            called.add(call.group(1));
            due.is(line, answer(call.group(1), call.group(2)), number(call.group(3)));
        } else {
            due.holds("a line of the example can be run: " + line, false);
        }
    }

    private static int answer(String name, String inputs) throws ReflectiveOperationException {
        Object[] values = inputs.isEmpty() ? new Object[0]
                : Arrays.stream(inputs.split(", ")).map(Integer::valueOf).toArray();
        Class<?>[] types = new Class<?>[values.length];
        Arrays.fill(types, int.class);
        return (int) OnlineHull.class.getMethod(name, types).invoke(hull, values);
    }

    private static int number(String told) {
        return switch (told) {
            case "BAD" -> OnlineHull.BAD;
            case "FULL" -> OnlineHull.FULL;
            default -> Integer.parseInt(told);
        };
    }
}
