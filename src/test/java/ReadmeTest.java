import java.io.IOException;
import java.nio.file.Files;
import java.nio.file.Path;
import java.util.List;
import java.util.Locale;
import java.util.Set;
import java.util.TreeSet;
import java.util.regex.Matcher;
import java.util.regex.Pattern;

/** README.md tells the truth: its example answers what is written beside it, and its table has every call. */
public final class ReadmeTest {
    private static final Path README = Path.of("README.md");
    private static final String FIRST_LINE = "PageBuckets x = new PageBuckets();";
    private static final Pattern EXAMPLE = Pattern.compile("```java\\n(.*?)```", Pattern.DOTALL);
    private static final Pattern CALL = Pattern.compile("x\\.(\\w+)\\(([^)]*)\\); *// (-?\\d+|[A-Z]+)(:.*)?");
    private static final Pattern ROW = Pattern.compile("(?m)^\\| `(\\w+)\\(([^)]*)\\)` \\|");
    private static final Due due = new Due();

    public static void main(String[] args) throws IOException {
        String text = Files.readString(README);
        due.part("README.md");
        example(text);
        table(text);
        due.finish();
    }

    private static void example(String text) {
        Matcher block = EXAMPLE.matcher(text);
        List<String> lines = block.find() ? block.group(1).lines().toList() : List.of();
        if (lines.size() < 2 || !lines.get(0).equals(FIRST_LINE)) {
            due.fail("there is no example that begins with " + FIRST_LINE);
            return;
        }
        PageBuckets x = new PageBuckets();
        for (String line : lines.subList(1, lines.size())) {
            Matcher told = CALL.matcher(line);
            if (told.matches()) {
                due.is(line, call(told.group(1), told.group(2)).on(x), answer(told.group(3)));
            } else {
                due.fail("no call with its answer: " + line);
            }
        }
    }

    private static void table(String text) {
        Set<String> wanted = new TreeSet<>();
        for (Call.Name name : Call.Name.values()) {
            wanted.add(name.name().toLowerCase(Locale.ROOT) + " " + name.arguments);
        }
        Set<String> seen = new TreeSet<>();
        Matcher row = ROW.matcher(text);
        while (row.find()) {
            seen.add(row.group(1) + " " + numberOf(row.group(2)));
        }
        if (!seen.equals(wanted)) {
            due.fail("the table has " + seen + ", due are " + wanted);
        }
    }

    private static Call call(String name, String arguments) {
        int[] abc = new int[3];
        String[] told = arguments.split(", ");
        for (int i = 0; i < numberOf(arguments); i++) {
            abc[i] = Integer.parseInt(told[i]);
        }
        return new Call(Call.Name.valueOf(name.toUpperCase(Locale.ROOT)), abc[0], abc[1], abc[2]);
    }

    private static int numberOf(String arguments) {
        return arguments.isEmpty() ? 0 : arguments.split(", ").length;
    }

    private static int answer(String told) {
        return switch (told) {
            case "BAD" -> PageBuckets.BAD;
            case "NO" -> PageBuckets.NO;
            case "FULL" -> PageBuckets.FULL;
            case "LOG" -> PageBuckets.LOG;
            case "NONE" -> PageBuckets.NONE;
            default -> Integer.parseInt(told);
        };
    }
}
