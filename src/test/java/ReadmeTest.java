import java.io.IOException;
import java.lang.reflect.Method;
import java.nio.file.Files;
import java.nio.file.Path;
import java.util.HashMap;
import java.util.Map;
import java.util.regex.Matcher;
import java.util.regex.Pattern;

/** README.md's example is run line by line, so that it never says what the program does not answer. */
public final class ReadmeTest {
    private static final Pattern CALL = Pattern.compile(
            "(?:int (\\w+) = )?club\\.(\\w+)\\((.*)\\); *// ('.'|-?\\d+|true|false)(?::.*)?");

    public static void main(String[] args) throws IOException, ReflectiveOperationException {
        String readme = Files.readString(Path.of("README.md"));
        String[] parts = readme.split("```(?:java)?\n");
        Check.is("examples in README.md", parts.length, 3);
        if (parts.length == 3) {
            runExample(parts[1].split("\n"));
        }
        everyCallIsTold(readme);
        Check.end();
    }

    private static void runExample(String[] lines) throws ReflectiveOperationException {
        Bandwidthclub club = new Bandwidthclub();
        Map<String, String> numbers = new HashMap<>();
        int calls = 0;
        for (String line : lines) {
            Matcher call = CALL.matcher(line);
            if (call.matches()) {
                String answer = answer(club, call.group(2), call.group(3), numbers);
                Check.is(line, answer, call.group(4).replace("'", ""));
                numbers.put(call.group(1), answer);
                calls++;
            } else if (!line.isEmpty() && !line.equals("Bandwidthclub club = new Bandwidthclub();")) {
                Check.fail("README.md's example has a line that is no call: " + line);
            }
        }
        Check.is("calls in README.md's example", calls > 0, true);
    }

    private static String answer(Bandwidthclub club, String name, String written,
            Map<String, String> numbers) throws ReflectiveOperationException {
        String[] words = written.isEmpty() ? new String[0] : written.split(", ");
        Object[] given = new Object[words.length];
        for (int w = 0; w < words.length; w++) {
            String value = numbers.getOrDefault(words[w], words[w]);
            given[w] = value.equals("true") || value.equals("false")
                    ? (Object) Boolean.valueOf(value) : (Object) Integer.valueOf(value);
        }
        for (Method method : Bandwidthclub.class.getMethods()) {
            if (method.getName().equals(name)) {
                return String.valueOf(method.invoke(club, given));
            }
        }
        return "no such call";
    }

    private static void everyCallIsTold(String readme) {
        for (Method method : Bandwidthclub.class.getDeclaredMethods()) {
            if (method.toString().startsWith("public")) {
                String told = "`" + method.getName() + "(";
                Check.is("README.md tells of " + method.getName(), readme.contains(told), true);
            }
        }
    }
}
