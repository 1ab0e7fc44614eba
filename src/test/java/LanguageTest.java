import java.io.IOException;
import java.lang.reflect.Constructor;
import java.lang.reflect.Field;
import java.lang.reflect.Method;
import java.lang.reflect.Modifier;
import java.nio.file.Files;
import java.nio.file.Path;
import java.util.ArrayList;
import java.util.Arrays;
import java.util.HashSet;
import java.util.List;
import java.util.Set;
import java.util.TreeSet;
import java.util.regex.Matcher;
import java.util.regex.Pattern;

/** The face of the document, and those rules of LANGUAGE.md that can be seen without a compiler of one's own. */
public final class LanguageTest {
    private static final Path SOURCE = Path.of("src/main/java/DriftPages.java");
    private static final List<String> FACE = List.of("int feed(int,int,int,int,int)", "int table(int)", "int fault()",
        "int where()", "int about(int)", "int kind(int)", "int orderAt(int,int)", "long value(int,int)",
        "long was(int,int,int)", "int keySize(int)", "int keyByte(int,int)", "int rank(int)", "int ranked(int)",
        "int differ(int,int)", "int page(int,boolean)", "int next(int)", "int previous(int)", "int seek(int,long)",
        "int at(int)", "long cell(int,int)", "int tokenSize(int)", "int tokenByte(int,int)", "int beyond(int)",
        "int checks(int)", "boolean begin(int,int,boolean)", "int on(int)", "int back(int)", "int account(int,int)",
        "int seen(int,int)", "int insert(long,long,long,long)", "int remove(int)", "int change(int,int,long)",
        "int turn(int,int,int,int)", "int sieve(int,int,long)", "int clear()", "int passes(int)",
        "int condition(int,int)", "int lacking(int)", "int size(int)", "int trouble()");
    private static final List<String> BANNED = List.of("->", "::", "synchronized", "assert ", "finally", "try",
        "catch", "Exact(", "while (true)", "for (;;)", "Random", "Thread", "Object", "hashCode", "equals(",
        "toString", "double", "float", "protected ", "static {", "instanceof", "package ", "var ");

    private static int wrong = 0;

    public static void main(String[] args) throws IOException {
        face();
        classes();
        source(Files.readAllLines(SOURCE));
        System.out.println(wrong == 0 ? "the language is kept" : wrong + " rules are not kept");
        if (wrong != 0) {
            System.exit(1);
        }
    }

    private static void need(boolean good, String what) {
        if (!good) {
            wrong++;
            System.out.println(what);
        }
    }

    private static String signature(Method m) {
        List<String> types = new ArrayList<>();
        for (Class<?> type : m.getParameterTypes()) {
            types.add(type.getSimpleName());
        }
        return m.getReturnType().getSimpleName() + " " + m.getName() + "(" + String.join(",", types) + ")";
    }

    private static void face() {
        Class<?> c = DriftPages.class;
        need(Modifier.isPublic(c.getModifiers()) && Modifier.isFinal(c.getModifiers()), "the class: public final");
        Set<String> seen = new TreeSet<>();
        Set<String> names = new HashSet<>();
        for (Method m : c.getDeclaredMethods()) {
            if (Modifier.isPublic(m.getModifiers())) {
                seen.add(signature(m));
                names.add(m.getName());
            }
        }
        need(seen.equals(new TreeSet<>(FACE)), "the face is " + seen);
        for (Method m : c.getDeclaredMethods()) {
            int mod = m.getModifiers();
            need(Modifier.isPublic(mod) || Modifier.isPrivate(mod), "visible: " + m);
            need(Modifier.isPublic(mod) || !names.contains(m.getName()), "a public name: " + m);
        }
        for (Constructor<?> k : c.getDeclaredConstructors()) {
            need(Modifier.isPublic(k.getModifiers()) && k.getParameterCount() == 0, "constructor: " + k);
        }
        for (Field f : c.getDeclaredFields()) {
            need(Modifier.isPrivate(f.getModifiers()) || f.getName().equals("NONE"), "visible: " + f);
        }
        for (Class<?> inner : c.getDeclaredClasses()) {
            for (Method m : inner.getDeclaredMethods()) {
                need(!names.contains(m.getName()), "a public name: " + m);
            }
        }
    }

    private static void classes() {
        List<Class<?>> all = new ArrayList<>(Arrays.asList(DriftPages.class.getDeclaredClasses()));
        need(all.size() + 1 <= 12, "classes: " + all.size());
        for (Class<?> inner : all) {
            int mod = inner.getModifiers();
            need(Modifier.isStatic(mod) && !Modifier.isPublic(mod) && !Modifier.isProtected(mod), "inner: " + inner);
        }
        all.add(DriftPages.class);
        for (Class<?> c : all) {
            int fields = 0;
            for (Field f : c.getDeclaredFields()) {
                boolean fixed = Modifier.isStatic(f.getModifiers());
                fields += fixed ? 0 : 1;
                need(!fixed || Modifier.isFinal(f.getModifiers()), "static: " + f);
            }
            need(fields <= 20, "fields of " + c + ": " + fields);
            for (Method m : c.getDeclaredMethods()) {
                need(m.getParameterCount() <= 7, "parameters of " + m);
            }
        }
    }

    private static void source(List<String> lines) {
        int start = 0;
        Pattern method = Pattern.compile("^ {4,8}(public|private|static|boolean|int|long|void|Bytes)\\b[^=;]*\\{$");
        for (int i = 0; i < lines.size(); i++) {
            String line = lines.get(i);
            String code = line.replaceAll("/?\\*.*|//.*", "").replaceAll("\"[^\"]*\"", "\"\"");
            for (String word : BANNED) {
                need(!code.contains(word), "line " + (i + 1) + " has " + word);
            }
            need(!code.startsWith("import ") || code.equals("import java.util.NoSuchElementException;"), line);
            need(line.chars().allMatch(ch -> ch >= 32 && ch < 127), "line " + (i + 1) + " has an odd sign");
            Matcher system = Pattern.compile("System\\.(\\w+)").matcher(code);
            need(!system.find() || system.group(1).equals("arraycopy"), line);
            if (method.matcher(code).matches() && !code.contains(" class ")) {
                start = i;
            }
            if (code.matches(" {4,8}\\}")) {
                need(i - start <= 60 || code.length() < 6, "a method of " + (i - start) + " lines ends at " + (i + 1));
            }
        }
    }
}
