import java.io.IOException;
import java.lang.reflect.Field;
import java.lang.reflect.Method;
import java.lang.reflect.Modifier;
import java.nio.file.Files;
import java.nio.file.Path;
import java.util.Arrays;
import java.util.regex.Matcher;
import java.util.regex.Pattern;

/** What README.md says of the class holds: its example, its calls, and its constants. */
public final class ReadmeTest {
    private static final Path README = Path.of("README.md");
    private static final Pattern CALL_WITH_ANSWER = Pattern.compile("map\\.(\\w+)\\(([-0-9, ]*)\\); +// (-?\\w+):.*");

    private ReadmeTest() {
    }

    public static void main(String[] args) throws ReflectiveOperationException, IOException {
        String readme = Files.readString(README);
        example(readme);
        calls(readme);
        constants(readme);
        Checks.equal("the bound on the calls is told", true, readme.contains("at most 512 calls"));
        Checks.close("ReadmeTest");
    }

    private static void example(String readme) throws ReflectiveOperationException {
        FogMap map = new FogMap();
        for (String line : readme.split("\n")) {
            if (line.startsWith("map.")) {
                Matcher matcher = CALL_WITH_ANSWER.matcher(line);
                Checks.equal("a call with its answer: " + line, true, matcher.matches());
                int answer = new Call(matcher.group(1), numbers(matcher.group(2))).on(map);
                Checks.equal(line, valueOf(matcher.group(3)), answer);
            }
        }
        Checks.equal("the example makes calls", true, map.count(10) > 0);
    }

    private static int[] numbers(String arguments) {
        return arguments.isEmpty() ? new int[0] : Arrays.stream(arguments.split(", ")).mapToInt(Integer::parseInt).toArray();
    }

    private static int valueOf(String answer) throws ReflectiveOperationException {
        boolean isNumber = answer.matches("-?[0-9]+");
        return isNumber ? Integer.parseInt(answer) : FogMap.class.getField(answer).getInt(null);
    }

    private static void calls(String readme) {
        for (Method method : FogMap.class.getDeclaredMethods()) {
            if (Modifier.isPublic(method.getModifiers())) {
                Pattern row = Pattern.compile("\\| `" + method.getName() + "\\(([^)]*)\\)` \\|");
                Matcher matcher = row.matcher(readme);
                Checks.equal(method.getName() + " is told", true, matcher.find());
                int count = matcher.group(1).isEmpty() ? 0 : matcher.group(1).split(", ").length;
                Checks.equal("arguments of " + method.getName(), method.getParameterCount(), count);
            }
        }
    }

    private static void constants(String readme) throws ReflectiveOperationException {
        for (Field field : FogMap.class.getFields()) {
            String row = "| `" + field.getName() + "` | " + field.getInt(null) + " |";
            Checks.equal(row + " is told", true, readme.contains(row));
        }
    }
}
