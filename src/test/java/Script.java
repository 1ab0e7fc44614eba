import java.lang.reflect.InvocationTargetException;
import java.lang.reflect.Method;
import java.lang.reflect.Modifier;
import java.util.ArrayList;
import java.util.Arrays;
import java.util.HashMap;
import java.util.List;
import java.util.Map;
import java.util.NoSuchElementException;
import java.util.Set;

/**
 * A run of calls on one new object, told line by line; src/test/edges/README.md says how. Behind every call that is
 * due to be refused, twins (one that was asked it, one that was not) are looked at through all other calls.
 */
final class Script {
    static final int CALLS = 512;
    private static final long THROWN = Long.MAX_VALUE;
    private static final Set<String> WITHOUT_NUMBER = Set.of("feed", "fault", "where", "lacking", "size", "trouble");
    private static final Map<String, Method> FACE = face();

    private final String name;
    private final DriftPages x = new DriftPages();
    private final List<Call> history = new ArrayList<>();
    private final Map<String, int[]> kept = new HashMap<>();
    private int calls = 0;
    private long n = 0;
    private long i = 0;
    private String line = "";
    int wrong = 0;
    int asked = 0;
    int twins = 0;

    /** A call with all that it is given. */
    static final class Call {
        final Method method;
        final Object[] given;

        Call(String name, long... numbers) {
            method = FACE.get(name);
            if (method == null || method.getParameterCount() != numbers.length) {
                throw new IllegalArgumentException("no such call: " + name + Arrays.toString(numbers));
            }
            given = new Object[numbers.length];
            for (int k = 0; k < given.length; k++) {
                given[k] = as(method.getParameterTypes()[k], numbers[k]);
            }
        }

        private static Object as(Class<?> type, long number) {
            if (type == boolean.class) {
                return number != 0;
            }
            if (type == int.class && number != (int) number) {
                throw new IllegalArgumentException("no int: " + number);
            }
            return type == int.class ? (Object) (int) number : (Object) number;
        }

        long of(DriftPages x) {
            try {
                Object answer = method.invoke(x, given);
                return answer instanceof Boolean b ? (b ? 1 : 0) : ((Number) answer).longValue();
            } catch (InvocationTargetException e) {
                if (e.getCause() instanceof NoSuchElementException && method.getName().equals("lacking")) {
                    return THROWN;
                }
                throw new IllegalStateException(this + " throws", e.getCause());
            } catch (IllegalAccessException e) {
                throw new IllegalStateException(e);
            }
        }

        long refusal() {
            return method.getReturnType() == long.class ? Long.MIN_VALUE
                : method.getReturnType() == boolean.class ? 0 : DriftPages.NONE;
        }

        @Override
        public String toString() {
            return method.getName() + Arrays.toString(given);
        }
    }

    Script(String name) {
        this.name = name;
    }

    private static Map<String, Method> face() {
        Map<String, Method> face = new HashMap<>();
        for (Method m : DriftPages.class.getDeclaredMethods()) {
            if (Modifier.isPublic(m.getModifiers())) {
                face.put(m.getName(), m);
            }
        }
        return face;
    }

    private void due(String what, long got, long wanted) {
        asked++;
        if (got != wanted) {
            wrong++;
            System.out.println(name + "\n    " + line + "\n    " + what + " answered " + got + ", due is " + wanted);
        }
    }

    private long ask(Call call) {
        count();
        history.add(call);
        return call.of(x);
    }

    private long ask(String call, long... numbers) {
        return ask(new Call(call, numbers));
    }

    /** What a look at the object answers; no part of its history, as it changes nothing. */
    private long look(String call, long... numbers) {
        count();
        return new Call(call, numbers).of(x);
    }

    private void count() {
        calls++;
        if (calls > CALLS) {
            throw new IllegalStateException(name + ": more than " + CALLS + " calls");
        }
    }

    void tell(String told) {
        line = told.trim();
        if (line.isEmpty() || line.startsWith("--")) {
            return;
        }
        String[] words = line.split(" +");
        if (words.length > 2 && words[1].equals("times")) {
            String rest = line.substring(line.indexOf(" times ") + 7);
            for (long k = 0; k < Long.parseLong(words[0]); k++) {
                for (String one : rest.split(" & ")) {
                    i = k;
                    tell(one);
                }
            }
            return;
        }
        switch (words[0]) {
            case "load", "rows" -> load(words[0].equals("load"));
            case "faulty" -> faulty();
            case "text" -> feed(bytesOfText());
            case "bytes" -> feed(numbers(words, 1));
            case "token" -> feed(Due.checked(numbers(words, 1)));
            case "put" -> feed(kept.get(words[1]));
            case "take" -> kept.put(words[3], token(words[1]));
            case "before", "after" -> tokenIs(words[0], Due.checked(numbers(words, 2)));
            case "same" -> tokenIs(words[1], kept.get(words[2]));
            case "key" -> keyIs(number(words[1]), numbers(words, 3));
            case "ids" -> idsAre(numbers(words, 1));
            case "order" -> orderIs(numbers(words, 1));
            default -> call(words);
        }
    }

    // ---- lines that stand for several calls

    private int[] bytesOfText() {
        String text = line.substring(line.indexOf('<') + 1, line.lastIndexOf('>'));
        List<Integer> bytes = new ArrayList<>();
        for (int k = 0; k < text.length(); k++) {
            if (text.charAt(k) == '\\') {
                bytes.add(Integer.parseInt(text.substring(k + 1, k + 3), 16));
                k += 2;
            } else {
                bytes.add((int) text.charAt(k));
            }
        }
        return bytes.stream().mapToInt(b -> b).toArray();
    }

    private void feed(int[] bytes) {
        for (int from = 0; from < bytes.length; from += 20) {
            long[] five = new long[5];
            for (int k = 0; k < 20; k++) {
                five[k / 4] = (int) (five[k / 4] << 8 | (from + k < bytes.length ? bytes[from + k] & 255 : ' '));
            }
            ask("feed", five);
        }
        n = bytes.length;
    }

    private String behindText() {
        return line.substring(line.lastIndexOf('>') + 1).trim();
    }

    private void load(boolean whatever) {
        feed(bytesOfText());
        long rows = ask("table", n);
        due("table(" + n + ")", whatever ? Math.min(rows, 0) : rows, whatever ? 0 : Long.parseLong(behindText()));
        due("trouble()", look("trouble"), 0);
        due("fault()", look("fault"), 0);
        due("where()", look("where"), -1);
        due("size(0)", look("size", 0), 0);
    }

    private void faulty() {
        String[] words = behindText().split(" +");
        feed(bytesOfText());
        refused(new Call("table", n), 4);
        due("fault()", look("fault"), Long.parseLong(words[0]));
        due("where()", look("where"), words[2].equals("n") ? n : Long.parseLong(words[2]));
    }

    private int[] token(String which) {
        int w = which.equals("before") ? 0 : 1;
        int[] bytes = new int[(int) Math.max(0, look("tokenSize", w))];
        for (int k = 0; k < bytes.length; k++) {
            bytes[k] = (int) look("tokenByte", w, k);
        }
        return bytes;
    }

    private void tokenIs(String which, int[] bytes) {
        bytesAre(which, token(which), bytes);
        due("tokenByte behind all", look("tokenByte", which.equals("before") ? 0 : 1, bytes.length), -1);
        due("trouble()", look("trouble"), 1);
    }

    private void keyIs(long id, int[] bytes) {
        int[] key = new int[(int) Math.max(0, look("keySize", id))];
        for (int k = 0; k < key.length; k++) {
            key[k] = (int) look("keyByte", id, k);
        }
        bytesAre("key " + id, key, bytes);
        due("keyByte behind all", look("keyByte", id, bytes.length), -1);
        due("trouble()", look("trouble"), 1);
    }

    private void bytesAre(String what, int[] got, int[] wanted) {
        due(what + ": its size", got.length, wanted.length);
        for (int k = 0; k < wanted.length && k < got.length; k++) {
            due(what + ": byte " + k, got[k], wanted[k]);
        }
    }

    private void idsAre(int[] ids) {
        due("size(1)", look("size", 1), ids.length);
        for (int k = 0; k < ids.length; k++) {
            due("at(" + k + ")", look("at", k), ids[k]);
        }
        due("at(" + ids.length + ")", look("at", ids.length), -1);
        due("trouble()", look("trouble"), 1);
    }

    private void orderIs(int[] ids) {
        for (int k = 0; k < ids.length; k++) {
            due("ranked(" + k + ")", look("ranked", k), ids[k]);
            due("rank(" + ids[k] + ")", look("rank", ids[k]), k);
        }
        due("ranked(" + ids.length + ")", look("ranked", ids.length), -1);
        due("trouble()", look("trouble"), 1);
    }

    // ---- one call

    private void call(String[] words) {
        int sign = words.length;
        for (int k = words.length - 1; k > 0; k--) {
            if (words[k].equals("=") || words[k].equals("!") || words[k].equals("throws")) {
                sign = k;
            }
        }
        long[] given = new long[sign - 1];
        for (int k = 1; k < sign; k++) {
            given[k - 1] = number(words[k]);
        }
        Call call = new Call(words[0], given);
        if (sign == words.length) {
            ask(call);
        } else if (words[sign].equals("=")) {
            answered(call, number(words[sign + 1]));
        } else {
            refused(call, sign + 1 < words.length ? (int) number(words[sign + 1]) : 0);
        }
    }

    private void answered(Call call, long answer) {
        due(call.toString(), ask(call), answer);
        if (!WITHOUT_NUMBER.contains(call.method.getName())) {
            due("trouble() behind " + call, look("trouble"), 0);
        }
        if (call.method.getName().equals("checks")) {
            staysBut(call, Set.of());
        }
    }

    private void refused(Call call, int trouble) {
        String told = call.method.getName();
        boolean numbered = !WITHOUT_NUMBER.contains(told);
        long troubleAhead = numbered ? trouble : look("trouble");
        long whereAhead = numbered ? DriftPages.NONE : look("where");
        due(call.toString(), ask(call), told.equals("lacking") ? THROWN : call.refusal());
        due("trouble() behind " + call, look("trouble"), troubleAhead);
        if (trouble != 4) {
            due("where() behind " + call, look("where"), whereAhead);
        }
        boolean empties = told.equals("table") && trouble == 4
            || (told.equals("next") || told.equals("previous")) && trouble >= 6;
        if (empties) {
            due("size(0) behind " + call, look("size", 0), 0);
        }
        staysBut(call, empties ? told.equals("table") ? Set.of("tape", "fault") : Set.of("tape") : Set.of());
    }

    private void staysBut(Call call, Set<String> free) {
        twins++;
        List<Call> ahead = history.subList(0, history.size() - 1);
        for (int group = 0; group < Look.GROUPS; group++) {
            List<String> without = new Look(ahead, null, free).through(group);
            List<String> with = new Look(ahead, call, free).through(group);
            asked++;
            if (!without.equals(with)) {
                wrong++;
                int k = 0;
                while (k < with.size() && k < without.size() && with.get(k).equals(without.get(k))) {
                    k++;
                }
                System.out.println(name + "\n    " + line + "\n    " + call + " does not leave all as it was: "
                    + (k < without.size() ? without.get(k) : "nothing") + " without it, "
                    + (k < with.size() ? with.get(k) : "nothing") + " behind it");
            }
        }
    }

    // ---- numbers

    private int[] numbers(String[] words, int from) {
        int[] numbers = new int[words.length - from];
        for (int k = 0; k < numbers.length; k++) {
            numbers[k] = (int) number(words[from + k]);
        }
        return numbers;
    }

    private long number(String word) {
        if (word.startsWith("'")) {
            return Due.word(word.substring(1, word.length() - 1));
        }
        return switch (word) {
            case "MISSING" -> Long.MIN_VALUE;
            case "NONE" -> DriftPages.NONE;
            case "true" -> 1;
            case "false" -> 0;
            case "least" -> Integer.MIN_VALUE;
            case "most" -> Integer.MAX_VALUE;
            case "n" -> n;
            case "n+1" -> n + 1;
            case "n-1" -> n - 1;
            case "i" -> i;
            case "i+1" -> i + 1;
            default -> Long.decode(word);
        };
    }
}
