import java.io.IOException;
import java.nio.file.Files;
import java.nio.file.Path;
import java.util.ArrayList;
import java.util.List;
import java.util.Set;
import java.util.TreeSet;
import java.util.stream.Collectors;
import java.util.stream.Stream;

/** Sentences of the document that name an edge, each with a run of its own under src/test/edges. */
public final class EdgesTest {
    private static final Path EDGES = Path.of("src/test/edges");
    private static final Path DOC = Path.of("../shared/DOC.md");
    private static final int PROMISES = 41;

    private static int wrong = 0;
    private static int sentences = 0;
    private static int asked = 0;
    private static int twins = 0;
    private static final Set<String> sections = new TreeSet<>();

    public static void main(String[] args) throws IOException {
        String doc = plain(Files.readString(DOC));
        List<Path> files;
        try (Stream<Path> all = Files.list(EDGES)) {
            files = all.filter(f -> f.toString().endsWith(".txt")).sorted().collect(Collectors.toList());
        }
        for (Path file : files) {
            run(file, doc);
        }
        for (int promise = 1; promise <= PROMISES; promise++) {
            if (!sections.contains(Integer.toString(promise))) {
                wrong++;
                System.out.println("no sentence of promise " + promise);
            }
        }
        System.out.println("EdgesTest: " + sentences + " sentences, " + asked + " answers, " + twins
            + " pairs of twins, " + wrong + " not as due");
        if (wrong != 0) {
            System.exit(1);
        }
    }

    private static void run(Path file, String doc) throws IOException {
        List<String> lines = new ArrayList<>(Files.readAllLines(file));
        lines.add("== end");
        Script script = null;
        for (String line : lines) {
            if (!line.startsWith("== ")) {
                if (script != null) {
                    script.tell(line);
                }
                continue;
            }
            if (script != null) {
                wrong += script.wrong;
                asked += script.asked;
                twins += script.twins;
            }
            if (!line.equals("== end")) {
                heading(file, line, doc);
                script = new Script(file.getFileName() + ": " + line.substring(3));
            }
        }
    }

    /** A heading is a section's number and words that stand in that section. */
    private static void heading(Path file, String line, String doc) {
        sentences++;
        int bar = line.indexOf('|');
        String section = line.substring(3, bar).trim();
        sections.add(section);
        String quote = plain(line.substring(bar + 1));
        if (!sectionOf(section, doc).contains(quote)) {
            wrong++;
            System.out.println(file + ": section " + section + " does not say: " + quote);
        }
    }

    private static String sectionOf(String section, String doc) {
        if (section.equals("intro")) {
            return doc.substring(0, doc.indexOf("## Terms"));
        }
        int first;
        if (section.matches("\\d+")) {
            first = doc.indexOf("## Promise " + section + ":");
        } else {
            first = doc.indexOf(" " + section + ". ", doc.indexOf("## Terms"));
        }
        int promise = doc.indexOf("## ", first + 3);
        return doc.substring(first, promise);
    }

    private static String plain(String text) {
        return text.replace("`", "").replaceAll("\\s+", " ").trim();
    }
}
