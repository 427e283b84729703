import java.io.IOException;
import java.lang.reflect.Method;
import java.lang.reflect.Modifier;
import java.nio.file.Files;
import java.nio.file.Path;
import java.util.HashMap;
import java.util.List;
import java.util.Map;
import java.util.regex.Matcher;
import java.util.regex.Pattern;

/** README.md: its example answers what its comments say, and its table names every call. */
public final class ReadmeTest {
    private static final int CALLS = 12;
    private static final Pattern CALL =
            Pattern.compile("(?:int (\\w+) = )?ledger\\.(\\w+)\\(([^)]*)\\); *// (\\w+).*");

    private final RestrictedFunds ledger = new RestrictedFunds();
    private final Map<String, Integer> named = new HashMap<>();

    public static void main(String[] args) throws IOException, ReflectiveOperationException {
        List<String> lines = Files.readAllLines(Path.of("README.md"));
        ReadmeTest example = new ReadmeTest();
        int calls = 0;
        for (String line : lines) {
            Matcher call = CALL.matcher(line);
            if (call.matches()) {
                example.compare(call);
                calls++;
            }
        }
        Check.same("the calls of the example", String.valueOf(calls), String.valueOf(CALLS));
        everyCallIsNamed(lines);
        Check.finish("ReadmeTest");
    }

    private void compare(Matcher call) throws ReflectiveOperationException {
        String[] words = call.group(3).isEmpty() ? new String[0] : call.group(3).split(", *");
        int[] numbers = new int[words.length];
        for (int k = 0; k < words.length; k++) {
            numbers[k] = number(words[k]);
        }
        int due = number(call.group(4));
        Check.due(due, ledger, call.group(2), numbers);
        if (call.group(1) != null) {
            named.put(call.group(1), due);
        }
    }

    private int number(String word) throws ReflectiveOperationException {
        if (named.containsKey(word)) {
            return named.get(word);
        }
        if (Character.isUpperCase(word.charAt(0))) {
            return RestrictedFunds.class.getDeclaredField(word).getInt(null);
        }
        return word.startsWith("0b") ? Integer.parseInt(word.substring(2), 2) : Integer.parseInt(word);
    }

    private static void everyCallIsNamed(List<String> lines) {
        for (Method method : RestrictedFunds.class.getDeclaredMethods()) {
            if (Modifier.isPublic(method.getModifiers())) {
                String call = "`" + method.getName() + "(";
                boolean there = lines.stream().anyMatch(line -> line.startsWith("|") && line.contains(call));
                Check.same("the table names " + method.getName(), String.valueOf(there), "true");
            }
        }
    }
}
