import java.io.IOException;
import java.lang.reflect.Method;
import java.nio.file.Files;
import java.nio.file.Path;
import java.util.ArrayList;
import java.util.Arrays;
import java.util.List;
import java.util.regex.Matcher;
import java.util.regex.Pattern;
import java.util.stream.Stream;

/** README.md says how to use the class and how to run its tests: its answers are the class's, and it leaves none out. */
public final class ReadmeTests extends Dues {
    private static final Pattern CALL = Pattern.compile("x\\.(\\w+)\\(([-0-9, ]*)\\); +// (-?[0-9]+)\\b.*");
    private static final Pattern PAGE = Pattern.compile("for \\(char letter : \"(.+)\"\\.toCharArray\\(\\)\\) x\\.letter\\(letter\\);");
    private static final String MADE = "KingdomAtDice x = new KingdomAtDice();";

    public static void main(String[] args) throws IOException, ReflectiveOperationException {
        about("README.md");
        Path root = Path.of(System.getProperty("root", "."));
        String readme = Files.readString(root.resolve("README.md"));
        example(readme);
        everyCall(readme);
        everyTest(readme, root.resolve("src/test/java"));
        due("it says how to run the tests", readme.contains("    .ci/run\n") ? 1 : 0, 1);
        end();
    }

    private static void example(String readme) throws ReflectiveOperationException {
        Matcher block = Pattern.compile("(?s)```java\n(.*?)```").matcher(readme);
        if (!block.find()) {
            tellWrong("no example");
            return;
        }
        String[] lines = block.group(1).split("\n");
        due("an object is made first", lines[0].equals(MADE) ? 1 : 0, 1);
        KingdomAtDice x = new KingdomAtDice();
        for (String line : lines) {
            Matcher call = CALL.matcher(line);
            Matcher page = PAGE.matcher(line);
            if (call.matches()) {
                due(line, answer(x, call.group(1), call.group(2)), Long.parseLong(call.group(3)));
            } else if (page.matches()) {
                write(x, page.group(1));
            } else if (!line.equals(MADE)) {
                tellWrong("can't be checked: " + line);
            }
        }
    }

    private static long answer(KingdomAtDice x, String name, String numbers) throws ReflectiveOperationException {
        List<Object> given = new ArrayList<>();
        for (String number : numbers.split(", *")) {
            if (!number.isEmpty()) {
                given.add(Integer.parseInt(number));
            }
        }
        Class<?>[] types = new Class<?>[given.size()];
        Arrays.fill(types, int.class);
        return ((Number) KingdomAtDice.class.getMethod(name, types).invoke(x, given.toArray())).longValue();
    }

    private static void everyCall(String readme) {
        for (Method method : KingdomAtDice.class.getDeclaredMethods()) {
            int many = method.getParameterCount();
            String given = "\\w+" + ", \\w+".repeat(Math.max(0, many - 1));
            Pattern named = Pattern.compile("`" + method.getName() + "\\(" + (many == 0 ? "" : given) + "\\)`");
            if ((method.getModifiers() & java.lang.reflect.Modifier.PUBLIC) != 0 && !named.matcher(readme).find()) {
                tellWrong("it doesn't name " + method.getName());
            }
        }
    }

    private static void everyTest(String readme, Path tests) throws IOException {
        try (Stream<Path> files = Files.list(tests)) {
            files.map(file -> file.getFileName().toString().replace(".java", "")).forEach(name -> {
                if (!readme.contains("`" + name + "`")) {
                    tellWrong("it doesn't name " + name);
                }
            });
        }
        Matcher named = Pattern.compile("`(\\w+Tests)`").matcher(readme);
        while (named.find()) {
            due(named.group(1) + " is there", Files.exists(tests.resolve(named.group(1) + ".java")) ? 1 : 0, 1);
        }
    }
}
