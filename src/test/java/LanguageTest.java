import java.io.IOException;
import java.nio.file.Files;
import java.nio.file.Path;
import java.util.ArrayDeque;
import java.util.Deque;
import java.util.Set;
import java.util.regex.Matcher;
import java.util.regex.Pattern;

/** Words that LANGUAGE.md leaves out, and lengths that it bounds, in the text of the class. */
public final class LanguageTest {
    private static final Path SOURCE = Path.of("src/main/java/PageBuckets.java");
    private static final Set<String> LEFT_OUT = Set.of("throw", "throws", "try", "catch", "finally", "synchronized",
        "assert", "volatile", "transient", "native", "package", "protected", "Object", "Random", "Thread", "equals",
        "hashCode", "toString", "var", "yield");
    private static final Set<String> LIBRARY = Set.of("System.arraycopy", "Arrays.fill", "Math.max", "Math.min");
    private static final int LONGEST_METHOD = 60;
    private static final Due due = new Due();

    public static void main(String[] args) throws IOException {
        String code = withoutComments(Files.readString(SOURCE));
        due.part("the language");
        words(code);
        library(code);
        lengths(code);
        due.finish();
    }

    private static String withoutComments(String text) {
        Matcher comment = Pattern.compile("//[^\\n]*|/\\*.*?\\*/", Pattern.DOTALL).matcher(text);
        return comment.replaceAll(found -> found.group().replaceAll("[^\\n]", " "));
    }

    private static void words(String code) {
        Matcher word = Pattern.compile("[A-Za-z_]\\w*").matcher(code);
        while (word.find()) {
            if (LEFT_OUT.contains(word.group())) {
                due.fail("the word " + word.group());
            }
        }
        if (code.contains("->") || code.contains("::")) {
            due.fail("a lambda or a method reference");
        }
    }

    private static void library(String code) {
        Matcher used = Pattern.compile("\\b([A-Z][a-z]\\w*)\\.(\\w+)").matcher(code);
        while (used.find()) {
            if (!LIBRARY.contains(used.group())) {
                due.fail("the library's " + used.group());
            }
        }
        Matcher brought = Pattern.compile("import\\s+([^;]+);").matcher(code);
        while (brought.find()) {
            due.is(brought.group(), brought.group(1).equals("java.util.Arrays") ? 1 : 0, 1);
        }
    }

    /** A block that stands in a class and is no class is a method. */
    private static void lengths(String code) {
        Deque<Integer> starts = new ArrayDeque<>();
        Deque<Boolean> classes = new ArrayDeque<>();
        int line = 1;
        int headFrom = 0;
        for (int i = 0; i < code.length(); i++) {
            char c = code.charAt(i);
            if (c == '\n') {
                line++;
            } else if (c == '{') {
                starts.push(line);
                classes.push(Pattern.compile("\\bclass\\b").matcher(code.substring(headFrom, i)).find());
            } else if (c == '}') {
                int length = line - starts.pop() + 1;
                if (!classes.pop() && length > LONGEST_METHOD) {
                    due.fail("a block of " + length + " lines that ends in line " + line);
                }
            }
            if (c == '{' || c == '}' || c == ';') {
                headFrom = i + 1;
            }
        }
    }
}
