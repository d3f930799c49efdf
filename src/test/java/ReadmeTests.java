import java.io.IOException;
import java.lang.reflect.Method;
import java.nio.file.Files;
import java.nio.file.Path;
import java.util.Arrays;
import java.util.Map;
import java.util.regex.Matcher;
import java.util.regex.Pattern;

/** Runs the calls of README.md's example: each answers what its comment begins with. */
public final class ReadmeTests {
    private static final Pattern EXAMPLE = Pattern.compile("(?s)```java\n(.*?)```");
    private static final Pattern CALL = Pattern.compile("store\\.(\\w+)\\((.*?)\\); +// ([-.\\w]+).*");
    private static final Map<String, Integer> NAMED = Map.of("UNKNOWN", Answers.UNKNOWN, "BAD_VALUE", Answers.BAD_VALUE,
        "FULL", Answers.FULL, "NOT_POSSIBLE", Answers.NOT_POSSIBLE, "NONE", Answers.NONE);

    private static int calls = 0;
    private static int wrong = 0;

    private ReadmeTests() {
    }

    public static void main(String[] args) throws IOException, ReflectiveOperationException {
        Matcher example = EXAMPLE.matcher(Files.readString(Path.of("README.md")));
        if (example.find()) {
            run(example.group(1).split("\n"));
        }
        // An example that is not found would pass without a call.
        wrong += calls == 0 ? 1 : 0;
        System.out.println("ReadmeTests: " + calls + " calls, " + wrong + " wrong");
        if (wrong != 0) {
            System.exit(1);
        }
    }

    private static void run(String[] lines) throws ReflectiveOperationException {
        SwappedTables store = new SwappedTables();
        for (String line : lines) {
            if (line.startsWith("store.")) {
                check(store, line);
            }
        }
    }

    private static void check(SwappedTables store, String line) throws ReflectiveOperationException {
        Matcher call = CALL.matcher(line);
        if (!call.matches()) {
            tell(line, "tells no answer");
            return;
        }
        calls++;
        double got = ((Number) answer(store, call.group(1), call.group(2))).doubleValue();
        String word = call.group(3);
        double want = NAMED.containsKey(word) ? NAMED.get(word) : Double.parseDouble(word);
        if (got != want) {
            tell(line, "answered " + got);
        }
    }

    private static Object answer(SwappedTables store, String name, String arguments)
            throws ReflectiveOperationException {
        String[] words = arguments.isEmpty() ? new String[0] : arguments.split(", ");
        for (Method method : SwappedTables.class.getMethods()) {
            if (method.getName().equals(name) && method.getParameterCount() == words.length) {
                Object[] values = Arrays.stream(words).map(ReadmeTests::valueOf).toArray();
                return method.invoke(store, values);
            }
        }
        throw new NoSuchMethodException(name);
    }

    private static Object valueOf(String word) {
        if (word.startsWith("'")) {
            return word.charAt(1);
        }
        if (word.equals("true") || word.equals("false")) {
            return Boolean.valueOf(word);
        }
        return Integer.valueOf(word);
    }

    private static void tell(String line, String what) {
        wrong++;
        System.out.println(line + " " + what);
    }
}
