import java.io.IOException;
import java.lang.reflect.InvocationTargetException;
import java.lang.reflect.Method;
import java.nio.file.Files;
import java.nio.file.Path;
import java.util.Arrays;
import java.util.HashMap;
import java.util.Map;
import java.util.Set;
import java.util.TreeSet;
import java.util.regex.Matcher;
import java.util.regex.Pattern;

/** The calls that README.md shows answer what it says behind them. It is looked for where the test is started. */
public final class ReadmeTest {
    private static final String NEW_OBJECT = "LitreFractions x = new LitreFractions();";
    private static final Pattern CALL = Pattern.compile("(?:int (\\w+) = )?x\\.(\\w+)\\(([^)]*)\\); +// (-?\\w+)(?:: .*)?");

    private static LitreFractions x;
    private static final Map<String, Long> NAMED = new HashMap<>();
    private static final Set<String> SHOWN = new TreeSet<>();

    public static void main(String[] args) throws IOException, ReflectiveOperationException {
        boolean shown = false;
        for (String line : Files.readAllLines(Path.of("README.md"))) {
            if (line.startsWith("```")) {
                shown = line.equals("```java");
            } else if (shown && !line.isBlank()) {
                lineOf(line);
            }
        }
        Due.same("the calls that README.md shows", SHOWN.toString(), face().toString());
        Due.end();
    }

    private static void lineOf(String line) throws ReflectiveOperationException {
        if (line.equals(NEW_OBJECT)) {
            x = new LitreFractions();
            NAMED.clear();
            return;
        }
        Matcher call = CALL.matcher(line);
        if (!call.matches()) {
            Due.same("README.md's line " + line, "is no call with an answer behind it", "a call");
            return;
        }
        String got = answerOf(call.group(2), call.group(3).isEmpty() ? new String[0] : call.group(3).split(", "));
        Due.same("README.md's line " + line, got, call.group(4));
        SHOWN.add(call.group(2));
        if (call.group(1) != null) {
            NAMED.put(call.group(1), Long.valueOf(got));
        }
    }

    private static String answerOf(String name, String[] words) throws ReflectiveOperationException {
        Method method = methodOf(name);
        if (method.getParameterCount() != words.length) {
            return "another number of arguments";
        }
        Object[] arguments = new Object[words.length];
        for (int i = 0; i < words.length; i++) {
            Long named = NAMED.get(words[i]);
            long argument = named == null ? Long.decode(words[i].replace("L", "")) : named;
            // Not by ?: , which would make a Long of both.
            if (method.getParameterTypes()[i] == int.class) {
                arguments[i] = Math.toIntExact(argument);
            } else {
                arguments[i] = argument;
            }
        }
        try {
            Object answer = method.invoke(x, arguments);
            return answer == null ? "nothing" : answer.toString();
        } catch (InvocationTargetException e) {
            return e.getCause().getClass().getSimpleName();
        }
    }

    private static Method methodOf(String name) {
        return Arrays.stream(LitreFractions.class.getDeclaredMethods())
                .filter(m -> m.getName().equals(name))
                .findFirst()
                .orElseThrow();
    }

    private static Set<String> face() {
        Set<String> names = new TreeSet<>();
        for (Method m : LitreFractions.class.getMethods()) {
            if (m.getDeclaringClass() == LitreFractions.class) {
                names.add(m.getName());
            }
        }
        return names;
    }
}
