import java.io.IOException;
import java.lang.reflect.Method;
import java.nio.file.Files;
import java.nio.file.Path;
import java.util.Arrays;
import java.util.HashMap;
import java.util.Map;
import java.util.regex.Matcher;
import java.util.regex.Pattern;

/** The calls that README.md shows: each must answer the number that its comment begins with. */
public final class ReadmeTest {
    private static final Pattern CALL =
            Pattern.compile("(?:int (\\w+) = )?store\\.(\\w+)\\(([^)]*)\\);(?:\\s+// (-?\\d+)(?::.*)?)?");

    private final SnapSites store = new SnapSites();
    private final Map<String, Integer> names = new HashMap<>();

    private ReadmeTest() {
    }

    public static void main(String[] args) throws IOException, ReflectiveOperationException {
        ReadmeTest test = new ReadmeTest();
        int made = 0;
        boolean shown = false;
        for (String line : Files.readAllLines(Path.of("README.md"))) {
            if (line.startsWith("```")) {
                shown = line.equals("```java");
            } else if (shown && !line.startsWith("SnapSites store = new SnapSites();")) {
                test.make(line);
                made++;
            }
        }
        Due.due("README.md shows calls", made > 0, true);
        Due.end("ReadmeTest");
    }

    private void make(String line) throws ReflectiveOperationException {
        Matcher call = CALL.matcher(line);
        if (!call.matches()) {
            Due.fail("README.md shows something that is no call: " + line);
            return;
        }
        Object[] arguments = Arrays.stream(call.group(3).split(", ")).map(this::number).toArray();
        Class<?>[] types = new Class<?>[arguments.length];
        Arrays.fill(types, int.class);
        Method method = SnapSites.class.getMethod(call.group(2), types);
        Object answer = method.invoke(store, arguments);
        boolean answersNothing = method.getReturnType() == void.class;
        Due.due(line + " shows an answer", call.group(4) != null, !answersNothing);
        if (!answersNothing) {
            Due.due(line, String.valueOf(answer), String.valueOf(call.group(4)));
        }
        if (call.group(1) != null) {
            names.put(call.group(1), (Integer) answer);
        }
    }

    private Object number(String argument) {
        return names.containsKey(argument) ? names.get(argument) : Integer.valueOf(argument);
    }
}
