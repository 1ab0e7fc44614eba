import java.util.ArrayList;
import java.util.List;
import java.util.NoSuchElementException;
import java.util.Random;

/** Long runs of calls, made up by numbered seeds, answered by the class and by the model alike. */
public final class ModelTest {
    private static final int RUNS = 3000;
    private static final int CALLS = 512;
    private static final long MISSING = Long.MIN_VALUE;
    private static final int THROWN = -77;

    private final Random random;
    private final int seed;
    private final DriftPages real = new DriftPages();
    private final Model model = new Model();
    private final List<String> told = new ArrayList<>();
    private final List<String> tokens = new ArrayList<>();
    private int calls = 0;
    private boolean wrong = false;

    private ModelTest(int seed) {
        this.seed = seed;
        random = new Random(seed);
    }

    public static void main(String[] args) {
        int failed = 0;
        for (int seed = 1; seed <= RUNS && failed < 3; seed++) {
            ModelTest test = new ModelTest(seed);
            test.run();
            failed += test.wrong ? 1 : 0;
        }
        System.out.println(failed == 0 ? RUNS + " runs are answered as by the model" : failed + " runs are not");
        if (failed != 0) {
            System.exit(1);
        }
    }

    private void run() {
        if (any(10) > 0) {
            giveText(goodText());
        }
        while (calls < CALLS && !wrong) {
            step();
        }
    }

    // ---- what is asked

    private void step() {
        int group = any(100);
        if (group < 3) {
            giveText(any(3) == 0 ? goodText() : spoilt(goodText()));
        } else if (group < 30) {
            act();
        } else if (group < 32) {
            turning();
        } else if (group < 55) {
            paging();
        } else if (group < 75) {
            reading();
        } else if (group < 92) {
            asking();
        } else {
            telling();
        }
    }

    private void act() {
        int id = id();
        int column = column();
        switch (any(4)) {
            case 0:
            case 1:
                long[] v = {value(0), value(1), value(2), value(3)};
                same("insert " + java.util.Arrays.toString(v), real.insert(v[0], v[1], v[2], v[3]), model.insert(v));
                break;
            case 2:
                if (any(2) == 0) {
                    same("remove " + id, real.remove(id), model.remove(id));
                }
                break;
            default:
                long value = value(column);
                same("change " + id + " " + column + " " + value, real.change(id, column, value),
                    model.change(id, column, value));
        }
    }

    private void turning() {
        int kind = any(4);
        if (kind == 0) {
            int[] c = {code(), code(), any(2) == 0 ? -1 : code(), any(2) == 0 ? -1 : code()};
            same("turn " + java.util.Arrays.toString(c), real.turn(c[0], c[1], c[2], c[3]), model.turn(c));
        } else if (kind == 1) {
            int a = code();
            same("turn " + a, real.turn(a, -1, -1, -1), model.turn(a, -1, -1, -1));
        } else if (kind == 2) {
            int column = column();
            int how = any(7) - 1;
            long value = value(column);
            same("sieve " + column + " " + how + " " + value, real.sieve(column, how, value),
                model.sieve(column, how, value));
        } else {
            same("clear", real.clear(), model.clear());
        }
    }

    private void paging() {
        int size = size();
        switch (any(6)) {
            case 0:
                boolean stable = any(2) == 0;
                same("page " + size + " " + stable, real.page(size, stable), model.page(size, stable));
                break;
            case 1:
                long value = model.tab == null ? 0 : value(model.tab.order.get(0)[0]);
                same("seek " + size + " " + value, real.seek(size, value), model.seek(size, value));
                break;
            default:
                giveToken();
        }
        keepTokens();
        askPage();
    }

    private void askPage() {
        int i = any(22) - 1;
        int column = column();
        int which = any(4) - 1;
        same("at " + i, real.at(i), model.at(i));
        same("cell " + i + " " + column, real.cell(i, column), model.cell(i, column));
        same("tokenSize " + which, real.tokenSize(which), model.tokenSize(which));
        int b = any(45) - 2;
        same("tokenByte " + which + " " + b, real.tokenByte(which, b), model.tokenByte(which, b));
        same("beyond " + which, real.beyond(which), model.beyond(which));
    }

    private void keepTokens() {
        if (model.sheet != null && !model.sheet.before.isEmpty()) {
            tokens.add(model.sheet.before);
            tokens.add(model.sheet.after);
        }
    }

    private void giveToken() {
        String token = "T";
        if (!tokens.isEmpty()) {
            int latest = any(3) == 0 ? tokens.size() : Math.min(tokens.size(), 2);
            token = tokens.get(tokens.size() - 1 - any(latest));
        }
        int kind = any(8);
        if (kind == 0) {
            int i = any(token.length());
            token = token.substring(0, i) + (char) any(256) + token.substring(i + 1);
        } else if (kind == 1 && model.tab != null) {
            token = model.token(any(23), any(3) == 0 ? any(300) : -1, bytes(any(12)));
        } else if (kind == 2 && model.tab != null) {
            token = model.token(1 + any(20), model.tab.version() + any(4) - 2, bytes(2 + any(9)));
        }
        if (model.tape.length() > 0) {
            same("table 0", real.table(0), model.table(0));
        }
        feed(token);
        int n = any(12) == 0 ? any(50) - 3 : token.length();
        if (any(3) == 0) {
            same("checks " + n, real.checks(n), model.checks(n));
        }
        if (any(2) == 0) {
            same("next " + n, real.next(n), model.next(n, true));
        } else {
            same("previous " + n, real.previous(n), model.next(n, false));
        }
    }

    private void reading() {
        int reader = any(20) == 0 ? any(8) - 2 : any(4);
        int kind = any(12);
        if (kind == 0) {
            int size = size();
            boolean stable = any(2) == 0;
            same("begin " + reader + " " + size + " " + stable, real.begin(reader, size, stable) ? 1 : 0,
                model.begin(reader, size, stable) ? 1 : 0);
        } else if (kind < 5) {
            same("on " + reader, real.on(reader), model.step(reader, true));
        } else if (kind < 7) {
            same("back " + reader, real.back(reader), model.step(reader, false));
        } else if (kind < 11) {
            int what = any(9) - 1;
            same("account " + reader + " " + what, real.account(reader, what), model.account(reader, what));
        } else {
            int id = id();
            same("seen " + reader + " " + id, real.seen(reader, id), model.seen(reader, id));
        }
    }

    private void asking() {
        int id = id();
        int other = id();
        int column = column();
        int i = any(40) - 2;
        switch (any(9)) {
            case 0:
                same("value " + id + " " + column, real.value(id, column), model.value(id, column));
                break;
            case 1:
                int version = model.tab == null ? any(3) : model.tab.version() - any(45) + 2;
                same("was " + version + " " + id + " " + column, real.was(version, id, column),
                    model.was(version, id, column));
                break;
            case 2:
                same("keySize " + id, real.keySize(id), model.keySize(id));
                break;
            case 3:
                same("keyByte " + id + " " + i, real.keyByte(id, i), model.keyByte(id, i));
                break;
            case 4:
                same("rank " + id, real.rank(id), model.rank(id));
                break;
            case 5:
                same("ranked " + i, real.ranked(i), model.ranked(i));
                break;
            case 6:
                same("differ " + id + " " + other, real.differ(id, other), model.differ(id, other));
                break;
            case 7:
                same("passes " + id, real.passes(id), model.passes(id));
                break;
            default:
                int a = any(5) - 1;
                int b = any(4) - 1;
                same("condition " + a + " " + b, real.condition(a, b), model.condition(a, b));
        }
    }

    private void telling() {
        int what = any(10) - 1;
        int i = any(6) - 1;
        switch (any(6)) {
            case 0:
                same("about " + what, real.about(what), model.about(what));
                break;
            case 1:
                same("kind " + i, real.kind(i), model.kind(i));
                break;
            case 2:
                same("orderAt " + i + " " + what, real.orderAt(i, what), model.orderAt(i, what));
                break;
            case 3:
                same("lacking " + i, lackingReal(i), lackingModel(i));
                break;
            case 4:
                same("size " + i, real.size(i), model.size(i));
                break;
            default:
                same("fault", real.fault(), model.fault);
        }
    }

    private long lackingReal(int i) {
        try {
            return real.lacking(i);
        } catch (NoSuchElementException e) {
            return THROWN;
        }
    }

    private long lackingModel(int i) {
        try {
            return model.lacking(i);
        } catch (NoSuchElementException e) {
            return THROWN;
        }
    }

    // ---- texts

    private static final String[] NAMES = {"a", "b", "first", "table", "none", "qqqqqq", "up"};
    private static final String[] WORDS = {"a", "aa", "ab", "abc", "b", "zzzzzz", "zzzzz", "row", "none", "z"};

    private String goodText() {
        int columns = 1 + any(4);
        boolean[] words = new boolean[columns];
        StringBuilder b = new StringBuilder("table ");
        List<String> names = new ArrayList<>(List.of(NAMES));
        java.util.Collections.shuffle(names, random);
        for (int c = 0; c < columns; c++) {
            words[c] = any(2) == 0;
            b.append(c == 0 ? "" : gap(",")).append(names.get(c)).append(words[c] ? " word" : " number");
        }
        b.append(gap(";")).append("order ");
        List<String> used = new ArrayList<>(names.subList(0, columns));
        java.util.Collections.shuffle(used, random);
        int ordered = 1 + any(columns);
        for (int i = 0; i < ordered; i++) {
            b.append(i == 0 ? "" : gap(",")).append(used.get(i)).append(any(2) == 0 ? " up" : " down");
            b.append(any(2) == 0 ? " first" : "");
        }
        int rows = any(5) == 0 ? any(33) : any(12);
        for (int r = 0; r < rows && b.length() < 850; r++) {
            b.append(gap(";")).append("row");
            for (int c = 0; c < columns; c++) {
                b.append(' ').append(valueText(words[c]));
            }
        }
        return b.length() > 900 ? b.substring(0, 900) : b.toString();
    }

    private String gap(String sign) {
        return any(6) == 0 ? " " + sign + "  " : sign;
    }

    private String valueText(boolean word) {
        if (any(5) == 0) {
            return "none";
        }
        if (word) {
            return WORDS[any(WORDS.length)];
        }
        return (any(3) == 0 ? any(2) == 0 ? "-" : "- " : "") + (any(8) == 0 ? "9999" : any(6));
    }

    private String spoilt(String text) {
        String[] bits = {";", ",", "-", "row", "order a up", "table a word", "7", "12345", "abcdefg", "A", "", " ",
            "none", "first", "up", "" + (char) 200, "\0", ";row 1", "x"};
        String bit = bits[any(bits.length)];
        int from = any(text.length());
        int to = any(3) == 0 ? from : Math.min(text.length(), from + any(7));
        String made = text.substring(0, from) + bit + text.substring(to);
        return made.length() > 900 ? made.substring(0, 900) : made;
    }

    private void giveText(String text) {
        if (model.tape.length() > 0) {
            same("table 0", real.table(0), model.table(0));
        }
        feed(text);
        int n = any(15) == 0 ? any(text.length() + 30) - 2 : text.length();
        same("table " + n + " <" + text + ">", real.table(n), model.table(n));
        same("fault", real.fault(), model.fault);
    }

    private void feed(String text) {
        for (int i = 0; i < text.length(); i += 20) {
            int[] f = new int[5];
            for (int k = 0; k < 20; k++) {
                f[k / 4] = f[k / 4] << 8 | (i + k < text.length() ? text.charAt(i + k) : ' ');
            }
            same("feed", real.feed(f[0], f[1], f[2], f[3], f[4]), model.feed(f));
        }
    }

    // ---- arguments

    private int any(int below) {
        return random.nextInt(Math.max(1, below));
    }

    private int id() {
        int kind = any(20);
        if (kind == 0) {
            return any(80) - 5;
        }
        if (model.tab == null || kind == 1 || model.tab.now().isEmpty()) {
            return any(10);
        }
        List<Integer> ids = new ArrayList<>(model.tab.now().keySet());
        return ids.get(any(ids.size()));
    }

    private int column() {
        int columns = model.tab == null ? 4 : model.tab.names.size();
        return any(12) == 0 ? any(8) - 2 : any(columns);
    }

    private int size() {
        int kind = any(12);
        return kind == 0 ? any(25) - 2 : kind == 1 ? 20 : 1 + any(6);
    }

    private int code() {
        return any(10) == 0 ? any(22) - 3 : any(16);
    }

    private long value(int column) {
        long[] odd = {10000, -10000, 9999, -9999, 0, Long.MAX_VALUE, MISSING + 1, 96, 123, 0x61006161L,
            0x61616161616161L, 0x616161616161L, 0x7a7a7a7a7a7aL, 0x6100L, 0x16161L, -1};
        int kind = any(12);
        if (kind == 0) {
            return odd[any(odd.length)];
        }
        if (kind < 3) {
            return MISSING;
        }
        boolean word = model.tab != null && column >= 0 && column < model.tab.words.size()
            && model.tab.words.get(column);
        return word ? Model.number(WORDS[any(WORDS.length)]) : any(12) - 4;
    }

    private String bytes(int count) {
        StringBuilder b = new StringBuilder();
        for (int i = 0; i < count; i++) {
            b.append((char) (any(3) == 0 ? any(256) : any(3)));
        }
        return b.toString();
    }

    // ---- what is told of it

    private void same(String call, long got, long due) {
        calls++;
        told.add(call + " -> " + got);
        boolean alike = got == due && real.trouble() == model.trouble && real.where() == model.where();
        if (!alike && !wrong) {
            wrong = true;
            System.out.println("seed " + seed + ":");
            for (String line : told) {
                System.out.println("  " + line);
            }
            System.out.println("  due " + due + ", trouble " + model.trouble + " (is " + real.trouble() + "), where "
                + model.where() + " (is " + real.where() + ")");
        }
    }
}
