import java.io.IOException;
import java.lang.reflect.Method;
import java.lang.reflect.Modifier;
import java.nio.file.Files;
import java.nio.file.Path;
import java.util.List;
import java.util.regex.Matcher;
import java.util.regex.Pattern;
import java.util.stream.Stream;

/** README.md: what its examples say is answered is answered, and it leaves out no call and no test. */
final class ReadmeTest {
    private static final Path README = Path.of("README.md"), TESTS = Path.of("src/test/java");
    private static final Pattern MADE = Pattern.compile("HatHours x = new HatHours\\(\\);");
    private static final Pattern FED = Pattern.compile("for \\(char c : \"(.*)\"\\.toCharArray\\(\\)\\) \\{");
    private static final Pattern FEED = Pattern.compile(" +x\\.feed\\(c\\);|\\}");
    private static final Pattern CALL = Pattern.compile("x\\.(\\w+)\\(([-0-9, ]*)\\); +// (-?\\d+): .*");
    private static final Due due = new Due("ReadmeTest");
    private static HatHours x;

    public static void main(String[] args) throws IOException, ReflectiveOperationException {
        List<String> lines = Files.readAllLines(README);
        boolean example = false;
        int examples = 0;
        for (String line : lines) {
            if (line.startsWith("```")) {
                example = line.equals("```java");
                examples += example ? 1 : 0;
            } else if (example) {
                exampleLine(line);
            }
        }
        due.is("examples", examples, 3);
        String text = String.join("\n", lines);
        everyCallIsNamed(text);
        everyTestIsNamed(text);
        due.close();
    }

    private static void exampleLine(String line) throws ReflectiveOperationException {
        Matcher fed = FED.matcher(line);
        Matcher call = CALL.matcher(line);
        if (MADE.matcher(line).matches()) {
            x = new HatHours();
        } else if (fed.matches()) {
            Due.feed(x, fed.group(1));
        } else if (call.matches()) {
            String[] numbers = call.group(2).isEmpty() ? new String[0] : call.group(2).split(", ");
            due.is(line, answer(call.group(1), numbers), Long.parseLong(call.group(3)));
        } else {
            due.is("a line that is understood: " + line, FEED.matcher(line).matches() ? 1 : 0, 1);
        }
    }

    private static long answer(String name, String[] numbers) throws ReflectiveOperationException {
        Class<?>[] types = new Class<?>[numbers.length];
        Object[] values = new Object[numbers.length];
        for (int i = 0; i < numbers.length; i++) {
            types[i] = int.class;
            values[i] = Integer.valueOf(numbers[i]);
        }
        return ((Number) HatHours.class.getMethod(name, types).invoke(x, values)).longValue();
    }

    private static void everyCallIsNamed(String text) {
        String calls = text.substring(text.indexOf("### The calls"), text.indexOf("## Tests"));
        for (Method m : HatHours.class.getDeclaredMethods()) {
            if (Modifier.isPublic(m.getModifiers())) {
                due.is(m.getName() + " is named", calls.contains("`" + m.getName() + "`") ? 1 : 0, 1);
            }
        }
    }

    private static void everyTestIsNamed(String text) throws IOException {
        try (Stream<Path> files = Files.list(TESTS)) {
            for (String file : files.map(f -> f.getFileName().toString()).sorted().toList()) {
                if (file.endsWith("Test.java")) {
                    String row = "\n| `" + file.replace(".java", "") + "` |";
                    due.is(file + " is named", text.contains(row) ? 1 : 0, 1);
                }
            }
        }
    }
}
