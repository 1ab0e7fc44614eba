import java.util.ArrayList;
import java.util.HashMap;
import java.util.LinkedHashSet;
import java.util.List;
import java.util.Map;
import java.util.NoSuchElementException;
import java.util.Set;
import java.util.TreeMap;
import java.util.regex.Matcher;
import java.util.regex.Pattern;

/**
 * The document once more, said as plainly as the Java library allows: every version is kept whole, keys and
 * tokens are Strings of signs 0 .. 255, rows are sorted by TreeMaps. It shares no way of working with the class.
 */
final class Model {
    static final long MISSING = Long.MIN_VALUE;

    /** What a TABLE is; a version's rows by ids are never changed once they are in the list. */
    static final class Tab {
        final List<String> names = new ArrayList<>();
        final List<Boolean> words = new ArrayList<>();
        final List<int[]> order = new ArrayList<>();
        final List<long[]> sieve = new ArrayList<>();
        final List<Map<Integer, long[]>> versions = new ArrayList<>();
        int given = 0;
        int schema = 0;

        int version() {
            return versions.size() - 1;
        }

        Map<Integer, long[]> now() {
            return versions.get(version());
        }
    }

    static final class Sheet {
        final List<Integer> ids = new ArrayList<>();
        final List<long[]> values = new ArrayList<>();
        String before = "";
        String after = "";
        int ahead = 0;
        int behind = 0;
    }

    static final class Wanderer {
        int size;
        int version = -1;
        String stand = null;
        boolean ended = false;
        int pages = 0;
        final Map<Integer, Integer> seen = new HashMap<>();
        final Set<Integer> changedSince = new LinkedHashSet<>();
    }

    static final class Fault extends RuntimeException {
        private static final long serialVersionUID = 1L;
        final int number;
        final int at;

        Fault(int number, int at) {
            this.number = number;
            this.at = at;
        }
    }

    String tape = "";
    Tab tab = null;
    Sheet sheet = null;
    final Wanderer[] wanderers = new Wanderer[4];
    int trouble = 0;
    int fault = 0;
    int place = -1;

    // ---- the table

    int feed(int... numbers) {
        if (tape.length() + 20 > 900) {
            return -1;
        }
        StringBuilder b = new StringBuilder(tape);
        for (int number : numbers) {
            for (int shift = 24; shift >= 0; shift -= 8) {
                b.append((char) (number >> shift & 255));
            }
        }
        tape = b.toString();
        return tape.length();
    }

    int table(int n) {
        if (n < 0 || n > tape.length()) {
            return no(2);
        }
        String text = tape.substring(0, n);
        tape = "";
        try {
            tab = parse(text);
        } catch (Fault f) {
            fault = f.number;
            place = f.at;
            return no(4);
        }
        fault = 0;
        sheet = null;
        dropWanderers();
        return yes(tab.now().size());
    }

    private record Tok(String s, int at) {
        boolean word() {
            return s.matches("[a-z]+");
        }

        boolean whole() {
            return s.matches("[0-9]+");
        }
    }

    private static List<Tok> tokens(String text) {
        List<Tok> list = new ArrayList<>();
        Matcher m = Pattern.compile("[a-z]+|[0-9]+|[^ ]", Pattern.DOTALL).matcher(text);
        while (m.find()) {
            boolean good = m.group().matches("[a-z]{1,6}|[0-9]{1,4}|[;,-]");
            list.add(new Tok(good ? m.group() : "?", m.start()));
        }
        list.add(new Tok("", text.length()));
        return list;
    }

    private static Tab parse(String text) {
        List<Tok> toks = tokens(text);
        Tab t = new Tab();
        Map<Integer, long[]> rows = new TreeMap<>();
        int p = 0;
        while (true) {
            Tok lead = toks.get(p++);
            switch (lead.s()) {
                case "table":
                    p = parseTable(toks, p, t, lead);
                    break;
                case "order":
                    p = parseOrder(toks, p, t, lead);
                    break;
                case "row":
                    p = parseRow(toks, p, t, lead, rows);
                    break;
                default:
                    throw new Fault(1, lead.at());
            }
            Tok behind = toks.get(p++);
            if (behind.s().isEmpty()) {
                if (t.order.isEmpty()) {
                    throw new Fault(5, behind.at());
                }
                t.given = rows.size();
                t.versions.add(rows);
                return t;
            }
            need(behind.s().equals(";"), behind);
        }
    }

    private static void need(boolean good, Tok tok) {
        if (!good) {
            throw new Fault(1, tok.at());
        }
    }

    private static int parseTable(List<Tok> toks, int p, Tab t, Tok lead) {
        if (!t.names.isEmpty()) {
            throw new Fault(3, lead.at());
        }
        do {
            need(t.names.size() < 4, toks.get(p - 1));
            Tok name = toks.get(p++);
            need(name.word(), name);
            if (t.names.contains(name.s())) {
                throw new Fault(3, name.at());
            }
            Tok kind = toks.get(p++);
            need(kind.s().equals("number") || kind.s().equals("word"), kind);
            t.names.add(name.s());
            t.words.add(kind.s().equals("word"));
        } while (toks.get(p++).s().equals(","));
        return p - 1;
    }

    private static int parseOrder(List<Tok> toks, int p, Tab t, Tok lead) {
        if (t.names.isEmpty()) {
            throw new Fault(5, lead.at());
        }
        if (!t.order.isEmpty()) {
            throw new Fault(3, lead.at());
        }
        do {
            Tok name = toks.get(p++);
            need(name.word(), name);
            int column = t.names.indexOf(name.s());
            if (column < 0) {
                throw new Fault(2, name.at());
            }
            for (int[] part : t.order) {
                if (part[0] == column) {
                    throw new Fault(3, name.at());
                }
            }
            Tok how = toks.get(p++);
            need(how.s().equals("up") || how.s().equals("down"), how);
            boolean first = toks.get(p).s().equals("first");
            p += first ? 1 : 0;
            t.order.add(new int[] {column, how.s().equals("down") ? 1 : 0, first ? 1 : 0});
        } while (toks.get(p++).s().equals(","));
        return p - 1;
    }

    private static int parseRow(List<Tok> toks, int p, Tab t, Tok lead, Map<Integer, long[]> rows) {
        if (t.order.isEmpty()) {
            throw new Fault(5, lead.at());
        }
        if (rows.size() == 30) {
            throw new Fault(4, lead.at());
        }
        long[] values = new long[t.names.size()];
        for (int c = 0; c < values.length; c++) {
            Tok tok = toks.get(p++);
            if (tok.s().equals("none")) {
                values[c] = MISSING;
            } else if (t.words.get(c)) {
                need(tok.word(), tok);
                values[c] = number(tok.s());
            } else if (tok.s().equals("-")) {
                Tok whole = toks.get(p++);
                need(whole.whole(), whole);
                values[c] = -Integer.parseInt(whole.s());
            } else {
                need(tok.whole(), tok);
                values[c] = Integer.parseInt(tok.s());
            }
        }
        rows.put(rows.size(), values);
        return p;
    }

    static long number(String word) {
        long n = 0;
        for (char c : word.toCharArray()) {
            n = n * 256 + c;
        }
        return n;
    }

    static String word(long n) {
        String s = "";
        for (long rest = n; rest != 0; rest >>>= 8) {
            s = (char) (rest & 255) + s;
        }
        return s;
    }

    int where() {
        return trouble == 4 ? place : -1;
    }

    int about(int what) {
        if (tab == null) {
            return no(1);
        }
        int[] answers = {tab.names.size(), tab.order.size(), tab.now().size(), tab.given, tab.version(),
            tab.schema % 256, earliest()};
        return what < 0 || what >= answers.length ? no(1) : yes(answers[what]);
    }

    int kind(int column) {
        return hasColumn(column) ? yes(tab.words.get(column) ? 1 : 0) : no(1);
    }

    int orderAt(int i, int what) {
        boolean there = tab != null && i >= 0 && i < tab.order.size() && what >= 0 && what < 3;
        return there ? yes(tab.order.get(i)[what]) : no(1);
    }

    // ---- rows as they are

    long value(int id, int column) {
        return hasRow(id) && hasColumn(column) ? yesLong(tab.now().get(id)[column]) : noLong(1);
    }

    long was(int version, int id, int column) {
        if (tab == null) {
            return noLong(1);
        }
        if (!viewable(version)) {
            return noLong(8);
        }
        long[] row = tab.versions.get(version).get(id);
        return row == null || !hasColumn(column) ? noLong(1) : yesLong(row[column]);
    }

    int keySize(int id) {
        return hasRow(id) ? yes(key(id, tab.now().get(id)).length()) : no(1);
    }

    int keyByte(int id, int i) {
        if (!hasRow(id)) {
            return no(1);
        }
        return byteOf(key(id, tab.now().get(id)), i);
    }

    int rank(int id) {
        return hasRow(id) ? yes(allSorted().indexOf(id)) : no(1);
    }

    int ranked(int k) {
        return tab != null && k >= 0 && k < tab.now().size() ? yes(allSorted().get(k)) : no(1);
    }

    int differ(int id, int other) {
        if (!hasRow(id) || !hasRow(other) || id == other) {
            return no(1);
        }
        for (int i = 0; i < tab.order.size(); i++) {
            int c = tab.order.get(i)[0];
            if (tab.now().get(id)[c] != tab.now().get(other)[c]) {
                return yes(i);
            }
        }
        return yes(-2);
    }

    String part(int[] way, long value) {
        if (value == MISSING) {
            return way[2] == 1 ? "\0" : "\2";
        }
        String plain = tab.words.get(way[0]) ? word(value) + "\0"
            : "" + (char) ((value + 32768) / 256) + (char) ((value + 32768) % 256);
        StringBuilder b = new StringBuilder("\1");
        for (char c : plain.toCharArray()) {
            b.append(way[1] == 1 ? (char) (255 - c) : c);
        }
        return b.toString();
    }

    String key(int id, long[] row) {
        StringBuilder b = new StringBuilder();
        for (int[] way : tab.order) {
            b.append(part(way, row[way[0]]));
        }
        return b.append((char) (id / 256)).append((char) (id % 256)).toString();
    }

    private List<Integer> allSorted() {
        TreeMap<String, Integer> sorted = new TreeMap<>();
        tab.now().forEach((id, row) -> sorted.put(key(id, row), id));
        return new ArrayList<>(sorted.values());
    }

    private TreeMap<String, Integer> passing(int version) {
        TreeMap<String, Integer> sorted = new TreeMap<>();
        tab.versions.get(version).forEach((id, row) -> {
            if (passesRow(row)) {
                sorted.put(key(id, row), id);
            }
        });
        return sorted;
    }

    private boolean passesRow(long[] row) {
        for (long[] c : tab.sieve) {
            long v = row[(int) c[0]];
            int how = (int) c[1];
            boolean meets;
            if (v == MISSING || how > 2) {
                meets = how == (v == MISSING ? 3 : 4);
            } else {
                int cmp = tab.words.get((int) c[0]) ? word(v).compareTo(word(c[2])) : Long.compare(v, c[2]);
                meets = how == 0 ? cmp == 0 : how == 1 ? cmp < 0 : cmp > 0;
            }
            if (!meets) {
                return false;
            }
        }
        return true;
    }

    // ---- pages

    private static String checked(String bytes) {
        int check = 7;
        for (char c : bytes.toCharArray()) {
            check = (31 * check + c) % 251;
        }
        return bytes + (char) check;
    }

    String token(int size, int version, String key) {
        int stamp = version + 1;
        return checked("T" + (char) (tab.schema % 256) + (char) size + (char) (stamp / 256) + (char) (stamp % 256) + key);
    }

    /** version -1: not STABLE; asked "": by no TOKEN. */
    private int show(int size, int version, TreeMap<String, Integer> all, List<String> keys, String asked) {
        sheet = new Sheet();
        int viewed = version < 0 ? tab.version() : version;
        for (String key : keys) {
            int id = all.get(key);
            sheet.ids.add(id);
            sheet.values.add(tab.versions.get(viewed).get(id).clone());
        }
        if (!keys.isEmpty()) {
            String last = keys.get(keys.size() - 1);
            sheet.before = token(size, version, keys.get(0));
            sheet.after = token(size, version, last);
            sheet.ahead = all.headMap(keys.get(0), false).size();
            sheet.behind = all.tailMap(last, false).size();
        } else if (!asked.isEmpty()) {
            String key = asked.substring(5, asked.length() - 1);
            sheet.before = asked;
            sheet.after = asked;
            sheet.ahead = all.headMap(key, false).size();
            sheet.behind = all.tailMap(key, false).size();
        }
        return yes(keys.size());
    }

    private static List<String> firstOf(Iterable<String> keys, int size) {
        List<String> list = new ArrayList<>();
        for (String key : keys) {
            if (list.size() < size) {
                list.add(key);
            }
        }
        return list;
    }

    private static List<String> lastOf(TreeMap<String, Integer> all, String key, int size) {
        List<String> list = new ArrayList<>();
        for (String k : firstOf(all.headMap(key, false).descendingKeySet(), size)) {
            list.add(0, k);
        }
        return list;
    }

    int page(int size, boolean stable) {
        if (tab == null) {
            return no(1);
        }
        if (size < 1 || size > 20) {
            return no(2);
        }
        TreeMap<String, Integer> all = passing(tab.version());
        return show(size, stable ? tab.version() : -1, all, firstOf(all.keySet(), size), "");
    }

    private int tokenTrouble(String token) {
        if (token.length() < 8 || token.charAt(0) != 84 || token.charAt(2) < 1 || token.charAt(2) > 20
            || !checked(token.substring(0, token.length() - 1)).equals(token)) {
            return 6;
        }
        if (token.charAt(1) != tab.schema % 256) {
            return 7;
        }
        int stamp = token.charAt(3) * 256 + token.charAt(4);
        return stamp == 0 || viewable(stamp - 1) ? 0 : 8;
    }

    int next(int n, boolean onward) {
        if (tab == null) {
            return no(1);
        }
        if (n < 0 || n > tape.length()) {
            return no(2);
        }
        String token = tape.substring(0, n);
        tape = "";
        int wrong = tokenTrouble(token);
        if (wrong != 0) {
            return no(wrong);
        }
        int size = token.charAt(2);
        int version = token.charAt(3) * 256 + token.charAt(4) - 1;
        String key = token.substring(5, n - 1);
        TreeMap<String, Integer> all = passing(version < 0 ? tab.version() : version);
        List<String> keys = onward ? firstOf(all.tailMap(key, false).keySet(), size) : lastOf(all, key, size);
        return show(size, version, all, keys, token);
    }

    int seek(int size, long value) {
        if (tab == null) {
            return no(1);
        }
        int[] way = tab.order.get(0);
        if (size < 1 || size > 20 || !fits(way[0], value)) {
            return no(2);
        }
        TreeMap<String, Integer> all = passing(tab.version());
        List<String> keys = new ArrayList<>();
        for (Map.Entry<String, Integer> e : all.entrySet()) {
            String own = part(way, tab.now().get(e.getValue())[way[0]]);
            if (own.compareTo(part(way, value)) >= 0) {
                keys.add(e.getKey());
            }
        }
        return show(size, -1, all, firstOf(keys, size), "");
    }

    int at(int i) {
        return sheet != null && i >= 0 && i < sheet.ids.size() ? yes(sheet.ids.get(i)) : no(1);
    }

    long cell(int i, int column) {
        boolean there = sheet != null && i >= 0 && i < sheet.ids.size() && hasColumn(column);
        return there ? yesLong(sheet.values.get(i)[column]) : noLong(1);
    }

    int tokenSize(int which) {
        return sheet == null || which < 0 || which > 1 ? no(1) : yes((which == 0 ? sheet.before : sheet.after).length());
    }

    int tokenByte(int which, int i) {
        return sheet == null || which < 0 || which > 1 ? no(1) : byteOf(which == 0 ? sheet.before : sheet.after, i);
    }

    int beyond(int what) {
        return sheet == null || what < 0 || what > 1 ? no(1) : yes(what == 0 ? sheet.ahead : sheet.behind);
    }

    int checks(int n) {
        if (tab == null) {
            return no(1);
        }
        return n < 0 || n > tape.length() ? no(2) : yes(tokenTrouble(tape.substring(0, n)));
    }

    // ---- readers

    boolean begin(int reader, int size, boolean stable) {
        if (tab == null || reader < 0 || reader > 3) {
            no(1);
            return false;
        }
        if (size < 1 || size > 20) {
            no(2);
            return false;
        }
        Wanderer w = new Wanderer();
        w.size = size;
        w.version = stable ? tab.version() : -1;
        wanderers[reader] = w;
        yes(0);
        return true;
    }

    int step(int reader, boolean onward) {
        if (!begun(reader)) {
            return no(1);
        }
        Wanderer w = wanderers[reader];
        int version = w.version < 0 ? tab.version() : w.version;
        if (!viewable(version)) {
            return no(8);
        }
        TreeMap<String, Integer> all = passing(version);
        String stand = w.stand == null ? "" : w.stand;
        List<String> keys = onward ? firstOf(all.tailMap(stand, false).keySet(), w.size) : lastOf(all, stand, w.size);
        w.pages++;
        for (String key : keys) {
            w.seen.merge(all.get(key), 1, Integer::sum);
            w.changedSince.remove(all.get(key));
        }
        if (!keys.isEmpty()) {
            w.stand = keys.get(onward ? keys.size() - 1 : 0);
            w.ended = false;
        } else if (onward) {
            w.ended = true;
        }
        return yes(keys.size());
    }

    int account(int reader, int what) {
        if (!begun(reader) || what < 0 || what > 6) {
            return no(1);
        }
        Wanderer w = wanderers[reader];
        Map<Integer, long[]> now = tab.now();
        switch (what) {
            case 0:
                return yes((int) w.seen.values().stream().filter(n -> n == 1).count());
            case 1:
                return yes((int) w.seen.values().stream().filter(n -> n > 1).count());
            case 2:
                return yes((int) now.entrySet().stream()
                    .filter(e -> passesRow(e.getValue()) && !w.seen.containsKey(e.getKey())).count());
            case 3:
                return yes((int) w.seen.keySet().stream().filter(id -> !now.containsKey(id)).count());
            case 4:
                return yes((int) w.changedSince.stream().filter(now::containsKey).count());
            case 5:
                return yes(w.ended ? 1 : 0);
            default:
                return yes(w.pages);
        }
    }

    int seen(int reader, int id) {
        return begun(reader) && id >= 0 && id < tab.given ? yes(wanderers[reader].seen.getOrDefault(id, 0)) : no(1);
    }

    // ---- acts

    private Map<Integer, long[]> nextVersion() {
        Map<Integer, long[]> rows = new TreeMap<>();
        tab.now().forEach((id, row) -> rows.put(id, row.clone()));
        tab.versions.add(rows);
        return rows;
    }

    int insert(long... told) {
        if (tab == null) {
            return no(1);
        }
        long[] row = new long[tab.names.size()];
        for (int c = 0; c < row.length; c++) {
            row[c] = told[c];
            if (!fits(c, told[c])) {
                return no(2);
            }
        }
        if (tab.now().size() == 40 || tab.given == 64) {
            return no(3);
        }
        nextVersion().put(tab.given, row);
        return yes(tab.given++);
    }

    int remove(int id) {
        if (!hasRow(id)) {
            return no(1);
        }
        nextVersion().remove(id);
        return yes(tab.now().size());
    }

    int change(int id, int column, long value) {
        if (!hasRow(id) || !hasColumn(column)) {
            return no(1);
        }
        if (!fits(column, value)) {
            return no(2);
        }
        nextVersion().get(id)[column] = value;
        for (Wanderer w : wanderers) {
            if (w != null && w.seen.containsKey(id)) {
                w.changedSince.add(id);
            }
        }
        return rank(id);
    }

    int turn(int... codes) {
        if (tab == null) {
            return no(1);
        }
        List<int[]> order = new ArrayList<>();
        Set<Integer> used = new LinkedHashSet<>();
        boolean over = false;
        for (int code : codes) {
            if (code == -1) {
                over = true;
                continue;
            }
            if (over || code < 0 || code / 4 >= tab.names.size() || !used.add(code / 4)) {
                return no(2);
            }
            order.add(new int[] {code / 4, code / 2 % 2, code % 2});
        }
        if (order.isEmpty()) {
            return no(2);
        }
        tab.order.clear();
        tab.order.addAll(order);
        tab.schema++;
        dropWanderers();
        return yes(order.size());
    }

    int sieve(int column, int how, long value) {
        if (!hasColumn(column)) {
            return no(1);
        }
        if (how < 0 || how > 4 || how < 3 && (value == MISSING || !fits(column, value))) {
            return no(2);
        }
        if (tab.sieve.size() == 2) {
            return no(3);
        }
        tab.sieve.add(new long[] {column, how, value});
        tab.schema++;
        dropWanderers();
        return yes(tab.sieve.size());
    }

    int clear() {
        if (tab == null) {
            return no(1);
        }
        int count = tab.sieve.size();
        tab.sieve.clear();
        tab.schema++;
        dropWanderers();
        return yes(count);
    }

    int passes(int id) {
        return hasRow(id) ? yes(passesRow(tab.now().get(id)) ? 1 : 0) : no(1);
    }

    int condition(int i, int what) {
        boolean there = tab != null && i >= 0 && i < tab.sieve.size() && (what == 0 || what == 1);
        return there ? yes((int) tab.sieve.get(i)[what]) : no(1);
    }

    // ---- what is told

    int lacking(int i) {
        List<Integer> list = new ArrayList<>();
        if (tab != null) {
            tab.now().forEach((id, row) -> {
                for (long v : row) {
                    if (v == MISSING) {
                        list.add(id);
                        break;
                    }
                }
            });
        }
        if (i < 0 || i >= list.size()) {
            throw new NoSuchElementException();
        }
        return list.get(i);
    }

    int size(int what) {
        switch (what) {
            case 0:
                return tape.length();
            case 1:
                return sheet == null ? 0 : sheet.ids.size();
            case 2:
                return tab == null ? 0 : Math.min(40, tab.version());
            case 3:
                int count = 0;
                for (Wanderer w : wanderers) {
                    count += w == null ? 0 : 1;
                }
                return count;
            default:
                return -1;
        }
    }

    // ---- what these rest on

    private int yes(int answer) {
        trouble = 0;
        return answer;
    }

    private long yesLong(long answer) {
        trouble = 0;
        return answer;
    }

    private int no(int number) {
        trouble = number;
        return -1;
    }

    private long noLong(int number) {
        trouble = number;
        return MISSING;
    }

    private int byteOf(String bytes, int i) {
        return i >= 0 && i < bytes.length() ? yes(bytes.charAt(i)) : no(1);
    }

    private int earliest() {
        return Math.max(0, tab.version() - 40);
    }

    private boolean viewable(int version) {
        return version >= earliest() && version <= tab.version();
    }

    private boolean hasColumn(int column) {
        return tab != null && column >= 0 && column < tab.names.size();
    }

    private boolean hasRow(int id) {
        return tab != null && tab.now().containsKey(id);
    }

    private boolean fits(int column, long v) {
        if (v == MISSING) {
            return true;
        }
        return tab.words.get(column) ? word(v).matches("[a-z]{1,6}") : Math.abs(v) <= 9999;
    }

    private boolean begun(int reader) {
        return reader >= 0 && reader < 4 && wanderers[reader] != null;
    }

    private void dropWanderers() {
        java.util.Arrays.fill(wanderers, null);
    }
}
