import java.io.IOException;
import java.nio.file.DirectoryStream;
import java.nio.file.Files;
import java.nio.file.Path;
import java.util.List;
import java.util.regex.Matcher;
import java.util.regex.Pattern;

/** What README.md shows is so: each call of its example answers what stands behind it; its table has every test. */
public final class ReadmeTest {
    private static final Path README = Path.of("README.md");
    private static final Pattern CALL = Pattern.compile("x\\.(\\w+)\\((.*?)\\); *// (true|false|-?\\d+)\\b.*");
    private static final int LEAST = 20;

    private final Due due = new Due();
    private DriftPages x = null;
    private int calls = 0;

    public static void main(String[] args) throws IOException {
        List<String> lines = Files.readAllLines(README);
        ReadmeTest test = new ReadmeTest();
        test.example(lines);
        test.everyTestIsTold(lines);
        test.due.end("ReadmeTest");
    }

    private void example(List<String> lines) {
        boolean inside = false;
        for (String line : lines) {
            if (line.startsWith("```")) {
                inside = line.equals("```java");
            } else if (inside) {
                tell(line);
            }
        }
        due.is("calls of the example, " + LEAST + " at least", Math.min(calls, LEAST), LEAST);
    }

    private void tell(String line) {
        if (line.isEmpty() || line.startsWith("//")) {
            return;
        }
        if (line.equals("DriftPages x = new DriftPages();")) {
            x = new DriftPages();
            return;
        }
        Matcher call = CALL.matcher(line);
        boolean read = x != null && call.matches();
        due.is("a call with its answer: " + line, read ? 1 : 0, 1);
        if (read) {
            calls++;
            due.is(line, new Script.Call(call.group(1), given(call.group(2))).of(x), number(call.group(3)));
        }
    }

    private static long[] given(String told) {
        if (told.isEmpty()) {
            return new long[0];
        }
        String[] words = told.split(", *");
        long[] numbers = new long[words.length];
        for (int i = 0; i < words.length; i++) {
            numbers[i] = number(words[i]);
        }
        return numbers;
    }

    private static long number(String word) {
        return word.equals("true") ? 1 : word.equals("false") ? 0 : Long.decode(word);
    }

    private void everyTestIsTold(List<String> lines) throws IOException {
        try (DirectoryStream<Path> tests = Files.newDirectoryStream(Path.of("src/test/java"), "*Test.java")) {
            for (Path test : tests) {
                String row = "| " + test.getFileName().toString().replace(".java", "") + " |";
                due.is("README.md tells of " + row, lines.stream().anyMatch(l -> l.startsWith(row)) ? 1 : 0, 1);
            }
        }
    }
}
