import java.util.NoSuchElementException;

/** Results read page by page while the rows change; ../shared/DOC.md says what each call promises. */
public final class DriftPages {
    public static final int NONE = -1;

    private static final long MISSING = Long.MIN_VALUE;
    private static final int TAPE_ROOM = 900;
    private static final int COLUMN_ROOM = 4;
    private static final int ID_ROOM = 64;
    private static final int ROW_ROOM = 40;
    private static final int TOLD_ROOM = 30;
    private static final int ACT_ROOM = 40;
    private static final int PAGE_ROOM = 20;
    private static final int READER_ROOM = 4;
    private static final int CONDITION_ROOM = 2;
    private static final int LETTER_ROOM = 6;
    private static final int DIGIT_ROOM = 4;
    private static final int KEY_ROOM = COLUMN_ROOM * (LETTER_ROOM + 2) + 2;

    private static final int NUMBER = 0;
    private static final int WORD = 1;
    private static final int LARGEST = 9999;
    private static final long SIX_LETTERS = 1L << 40;
    private static final long SEVEN_LETTERS = 1L << 48;

    private static final int NO_SUCH = 1;
    private static final int WRONG = 2;
    private static final int NO_ROOM = 3;
    private static final int FAULTY = 4;
    private static final int TAMPERED = 6;
    private static final int STALE = 7;
    private static final int GONE = 8;

    private static final int TOKEN_MARK = 84;
    private static final int TOKEN_LEAST = 8;
    private static final int TOKEN_HEAD = 5;

    private final Bytes tape;
    private final Bytes edge;
    private final View view;
    private final Page shown;
    private final Reader[] readers;
    private Table table;
    private int trouble;
    private int fault;
    private int place;

    public DriftPages() {
        tape = new Bytes(TAPE_ROOM);
        edge = new Bytes(TAPE_ROOM);
        view = new View();
        shown = new Page();
        readers = new Reader[READER_ROOM];
        for (int i = 0; i < READER_ROOM; i++) {
            readers[i] = new Reader();
        }
        table = null;
        trouble = 0;
        fault = 0;
        place = NONE;
    }

    // ---- the table

    public int feed(int a, int b, int c, int d, int e) {
        if (tape.count + 20 > TAPE_ROOM) {
            return NONE;
        }
        tape.putFour(a);
        tape.putFour(b);
        tape.putFour(c);
        tape.putFour(d);
        tape.putFour(e);
        return tape.count;
    }

    public int table(int n) {
        if (!isOnTape(n)) {
            return refused(WRONG);
        }
        Table told = new Table();
        Parser parser = new Parser(tape, n, told);
        boolean whole = parser.readTable();
        tape.empty();
        fault = parser.fault;
        if (!whole) {
            place = parser.place;
            return refused(FAULTY);
        }
        table = told;
        shown.there = false;
        dismissReaders();
        return answered(told.rows.count);
    }

    public int fault() {
        return fault;
    }

    public int where() {
        return trouble == FAULTY ? place : NONE;
    }

    public int about(int what) {
        if (table == null || what < 0 || what > 6) {
            return refused(NO_SUCH);
        }
        switch (what) {
            case 0:
                return answered(table.columns);
            case 1:
                return answered(table.order.count);
            case 2:
                return answered(table.rows.count);
            case 3:
                return answered(table.rows.given);
            case 4:
                return answered(table.acts.version);
            case 5:
                return answered(table.turns & 255);
            default:
                return answered(table.acts.earliest());
        }
    }

    public int kind(int column) {
        if (!isColumn(column)) {
            return refused(NO_SUCH);
        }
        return answered(table.kinds[column]);
    }

    public int orderAt(int i, int what) {
        if (table == null || i < 0 || i >= table.order.count || what < 0 || what > 2) {
            return refused(NO_SUCH);
        }
        if (what == 0) {
            return answered(table.order.columns[i]);
        }
        boolean told = what == 1 ? table.order.downs[i] : table.order.firsts[i];
        return answered(told ? 1 : 0);
    }

    // ---- rows as they are

    public long value(int id, int column) {
        if (!isRow(id) || !isColumn(column)) {
            return refusedValue(NO_SUCH);
        }
        return answeredValue(table.rows.read(id, column));
    }

    public long was(int version, int id, int column) {
        if (table == null) {
            return refusedValue(NO_SUCH);
        }
        if (!table.acts.canView(version)) {
            return refusedValue(GONE);
        }
        if (!isColumn(column)) {
            return refusedValue(NO_SUCH);
        }
        view.show(table, version);
        if (!view.rows.has(id)) {
            return refusedValue(NO_SUCH);
        }
        return answeredValue(view.rows.read(id, column));
    }

    public int keySize(int id) {
        if (!isRow(id)) {
            return refused(NO_SUCH);
        }
        return answered(keyNow(id).count);
    }

    public int keyByte(int id, int i) {
        if (!isRow(id)) {
            return refused(NO_SUCH);
        }
        return answeredOrNone(keyNow(id).get(i));
    }

    public int rank(int id) {
        if (!isRow(id)) {
            return refused(NO_SUCH);
        }
        return answered(rankNow(id));
    }

    public int ranked(int k) {
        if (table == null || k < 0 || k >= table.rows.count) {
            return refused(NO_SUCH);
        }
        view.show(table, table.acts.version);
        return answered(view.ids[k]);
    }

    public int differ(int id, int other) {
        if (!isRow(id) || !isRow(other) || id == other) {
            return refused(NO_SUCH);
        }
        for (int i = 0; i < table.order.count; i++) {
            int column = table.order.columns[i];
            if (table.rows.read(id, column) != table.rows.read(other, column)) {
                return answered(i);
            }
        }
        return answered(-2);
    }

    // ---- pages

    public int page(int size, boolean stable) {
        if (table == null) {
            return refused(NO_SUCH);
        }
        if (!isPageSize(size)) {
            return refused(WRONG);
        }
        view.show(table, table.acts.version);
        view.chooseFrom(0, size);
        shown.fill(view, size, stable ? table.acts.version + 1 : 0);
        return answered(shown.count);
    }

    public int next(int n) {
        return pageByToken(n, true);
    }

    public int previous(int n) {
        return pageByToken(n, false);
    }

    public int seek(int size, long value) {
        if (table == null) {
            return refused(NO_SUCH);
        }
        if (!isPageSize(size) || !table.canHold(table.order.columns[0], value)) {
            return refused(WRONG);
        }
        edge.empty();
        table.order.writePart(0, value, edge);
        view.show(table, table.acts.version);
        view.chooseFrom(view.countBelow(edge), size);
        shown.fill(view, size, 0);
        return answered(shown.count);
    }

    public int at(int i) {
        if (!shown.has(i)) {
            return refused(NO_SUCH);
        }
        return answered(shown.ids[i]);
    }

    public long cell(int i, int column) {
        if (!shown.has(i) || !isColumn(column)) {
            return refusedValue(NO_SUCH);
        }
        return answeredValue(shown.values[i * COLUMN_ROOM + column]);
    }

    public int tokenSize(int which) {
        if (!shown.there || which < 0 || which > 1) {
            return refused(NO_SUCH);
        }
        return answered(shown.tokenOf(which).count);
    }

    public int tokenByte(int which, int i) {
        if (!shown.there || which < 0 || which > 1) {
            return refused(NO_SUCH);
        }
        return answeredOrNone(shown.tokenOf(which).get(i));
    }

    public int beyond(int what) {
        if (!shown.there || what < 0 || what > 1) {
            return refused(NO_SUCH);
        }
        return answered(what == 0 ? shown.ahead : shown.behind);
    }

    public int checks(int n) {
        if (table == null) {
            return refused(NO_SUCH);
        }
        if (!isOnTape(n)) {
            return refused(WRONG);
        }
        return answered(troubleOfToken(n));
    }

    // ---- readers

    public boolean begin(int reader, int size, boolean stable) {
        if (table == null || reader < 0 || reader >= READER_ROOM) {
            trouble = NO_SUCH;
            return false;
        }
        if (!isPageSize(size)) {
            trouble = WRONG;
            return false;
        }
        readers[reader].start(size, stable, table.acts.version);
        trouble = 0;
        return true;
    }

    public int on(int reader) {
        return stepReader(reader, true);
    }

    public int back(int reader) {
        return stepReader(reader, false);
    }

    public int account(int reader, int what) {
        if (!hasBegun(reader) || what < 0 || what > 6) {
            return refused(NO_SUCH);
        }
        Reader asked = readers[reader];
        if (what == 5) {
            return answered(asked.ended ? 1 : 0);
        }
        if (what == 6) {
            return answered(asked.pages);
        }
        int count = 0;
        for (int id = 0; id < table.rows.given && id < ID_ROOM; id++) {
            if (asked.counts(what, id, table)) {
                count++;
            }
        }
        return answered(count);
    }

    public int seen(int reader, int id) {
        if (!hasBegun(reader) || id < 0 || id >= ID_ROOM || id >= table.rows.given) {
            return refused(NO_SUCH);
        }
        return answered(readers[reader].sights[id]);
    }

    // ---- acts

    public int insert(long a, long b, long c, long d) {
        if (table == null) {
            return refused(NO_SUCH);
        }
        long[] told = {a, b, c, d};
        for (int column = 0; column < table.columns; column++) {
            if (!table.canHold(column, told[column])) {
                return refused(WRONG);
            }
        }
        if (table.rows.count >= ROW_ROOM || table.rows.given >= ID_ROOM) {
            return refused(NO_ROOM);
        }
        int id = table.rows.add();
        for (int column = 0; column < table.columns; column++) {
            table.rows.write(id, column, told[column]);
        }
        table.acts.note(Acts.CAME, id, 0, 0);
        return answered(id);
    }

    public int remove(int id) {
        if (!isRow(id)) {
            return refused(NO_SUCH);
        }
        table.rows.set(id, false);
        table.acts.note(Acts.WENT, id, 0, 0);
        return answered(table.rows.count);
    }

    public int change(int id, int column, long value) {
        if (!isRow(id) || !isColumn(column)) {
            return refused(NO_SUCH);
        }
        if (!table.canHold(column, value)) {
            return refused(WRONG);
        }
        table.acts.note(Acts.CHANGED, id, column, table.rows.read(id, column));
        table.rows.write(id, column, value);
        table.touched[id] = table.acts.version;
        return answered(rankNow(id));
    }

    public int turn(int a, int b, int c, int d) {
        if (table == null) {
            return refused(NO_SUCH);
        }
        int[] codes = {a, b, c, d};
        int length = Order.lengthOf(codes, table.columns);
        if (length == 0) {
            return refused(WRONG);
        }
        table.order.count = 0;
        for (int i = 0; i < length && i < COLUMN_ROOM; i++) {
            int column = codes[i] >> 2;
            table.order.add(column, table.kinds[column], (codes[i] & 2) != 0, (codes[i] & 1) != 0);
        }
        turned();
        return answered(length);
    }

    public int sieve(int column, int how, long value) {
        if (!isColumn(column)) {
            return refused(NO_SUCH);
        }
        if (how < 0 || how > Sieve.TOLD) {
            return refused(WRONG);
        }
        if (how < Sieve.LACKING && (value == MISSING || !table.canHold(column, value))) {
            return refused(WRONG);
        }
        if (table.sieve.count >= CONDITION_ROOM) {
            return refused(NO_ROOM);
        }
        table.sieve.add(column, table.kinds[column], how, value);
        turned();
        return answered(table.sieve.count);
    }

    public int clear() {
        if (table == null) {
            return refused(NO_SUCH);
        }
        int count = table.sieve.count;
        table.sieve.count = 0;
        turned();
        return answered(count);
    }

    public int passes(int id) {
        if (!isRow(id)) {
            return refused(NO_SUCH);
        }
        return answered(table.sieve.lets(table.rows, id) ? 1 : 0);
    }

    public int condition(int i, int what) {
        if (table == null || i < 0 || i >= table.sieve.count || what < 0 || what > 1) {
            return refused(NO_SUCH);
        }
        return answered(what == 0 ? table.sieve.columns[i] : table.sieve.hows[i]);
    }

    // ---- what is told

    public int lacking(int i) throws NoSuchElementException {
        int ahead = 0;
        int given = table == null ? 0 : table.rows.given;
        for (int id = 0; id < given; id++) {
            if (isRow(id) && table.lacksValue(id)) {
                if (ahead == i) {
                    return id;
                }
                ahead++;
            }
        }
        throw new NoSuchElementException("no such row lacks a value");
    }

    public int size(int what) {
        switch (what) {
            case 0:
                return tape.count;
            case 1:
                return shown.there ? shown.count : 0;
            case 2:
                return table == null ? 0 : table.acts.version - table.acts.earliest();
            case 3:
                return countReaders();
            default:
                return NONE;
        }
    }

    public int trouble() {
        return trouble;
    }

    // ---- answers, and what they rest on

    private int refused(int number) {
        trouble = number;
        return NONE;
    }

    private long refusedValue(int number) {
        trouble = number;
        return MISSING;
    }

    private int answered(int answer) {
        trouble = 0;
        return answer;
    }

    private long answeredValue(long answer) {
        trouble = 0;
        return answer;
    }

    private int answeredOrNone(int answer) {
        return answer == NONE ? refused(NO_SUCH) : answered(answer);
    }

    private boolean isOnTape(int n) {
        return n >= 0 && n <= tape.count;
    }

    private boolean isColumn(int column) {
        return table != null && column >= 0 && column < table.columns;
    }

    private boolean isRow(int id) {
        return table != null && table.rows.has(id);
    }

    private static boolean isPageSize(int size) {
        return size >= 1 && size <= PAGE_ROOM;
    }

    /** In calls a word is a long of its letters. */
    private static boolean isWordValue(long word) {
        if (word <= 0 || word >= SEVEN_LETTERS) {
            return false;
        }
        for (int shift = 0; shift < 48 && word >> shift != 0; shift += 8) {
            long letter = word >> shift & 255;
            if (letter < 'a' || letter > 'z') {
                return false;
            }
        }
        return true;
    }

    /** With the first letters of all words at one height, their longs stand as in a dictionary. */
    private static long raisedWord(long word) {
        long raised = word;
        for (int i = 1; i < LETTER_ROOM && raised < SIX_LETTERS; i++) {
            raised <<= 8;
        }
        return raised;
    }

    private boolean hasBegun(int reader) {
        return table != null && reader >= 0 && reader < READER_ROOM && readers[reader].begun;
    }

    private int rankNow(int id) {
        view.show(table, table.acts.version);
        return view.placeOf(id);
    }

    private Bytes keyNow(int id) {
        view.show(table, table.acts.version);
        return view.keyAt(view.placeOf(id));
    }

    private int pageByToken(int n, boolean onward) {
        if (table == null) {
            return refused(NO_SUCH);
        }
        if (!isOnTape(n)) {
            return refused(WRONG);
        }
        int wrong = troubleOfToken(n);
        if (wrong != 0) {
            tape.empty();
            return refused(wrong);
        }
        int size = tape.get(2);
        int stamp = tape.getTwo(3);
        edge.empty();
        edge.append(tape, TOKEN_HEAD, n - 1);
        view.show(table, stamp == 0 ? table.acts.version : stamp - 1);
        view.chooseBeside(edge, size, onward);
        shown.fill(view, size, stamp);
        shown.keepToken(tape, n, view, edge);
        tape.empty();
        return answered(shown.count);
    }

    private int troubleOfToken(int n) {
        if (n < TOKEN_LEAST || tape.get(0) != TOKEN_MARK || tape.get(n - 1) != tape.checkOf(n - 1)
                || !isPageSize(tape.get(2))) {
            return TAMPERED;
        }
        if (tape.get(1) != (table.turns & 255)) {
            return STALE;
        }
        int stamp = tape.getTwo(3);
        return stamp != 0 && !table.acts.canView(stamp - 1) ? GONE : 0;
    }

    private int stepReader(int reader, boolean onward) {
        if (!hasBegun(reader)) {
            return refused(NO_SUCH);
        }
        Reader going = readers[reader];
        int version = going.stable ? going.version : table.acts.version;
        if (!table.acts.canView(version)) {
            return refused(GONE);
        }
        view.show(table, version);
        view.chooseBeside(going.key, going.size, onward);
        going.take(view, onward, table.acts.version);
        return answered(view.end - view.first);
    }

    /** What was made by the order or the sieve that was before is of no use by the one that is. */
    private void turned() {
        table.turns++;
        dismissReaders();
    }

    private void dismissReaders() {
        for (int i = 0; i < READER_ROOM; i++) {
            readers[i].begun = false;
        }
    }

    private int countReaders() {
        int count = 0;
        for (int i = 0; i < READER_ROOM; i++) {
            if (readers[i].begun) {
                count++;
            }
        }
        return count;
    }

    /** Bytes one behind the other, in a room that is made once. */
    private static final class Bytes {
        private final int[] bytes;
        private int count;

        Bytes(int room) {
            bytes = new int[room < 0 ? 0 : room];
            count = 0;
        }

        void empty() {
            count = 0;
        }

        void put(int number) {
            if (count < bytes.length) {
                bytes[count] = number & 255;
                count++;
            }
        }

        void putTwo(int number) {
            put(number >> 8);
            put(number);
        }

        void putFour(int number) {
            putTwo(number >> 16);
            putTwo(number);
        }

        int get(int i) {
            return i >= 0 && i < count ? bytes[i] : NONE;
        }

        int getTwo(int i) {
            return get(i) * 256 + get(i + 1);
        }

        void append(Bytes from, int first, int end) {
            for (int i = first; i < end; i++) {
                put(from.get(i));
            }
        }

        /** Where one has ended it gives NONE, which is below every byte: so the shorter one comes first. */
        int against(Bytes other) {
            int longest = Math.max(count, other.count);
            for (int i = 0; i < longest; i++) {
                int here = get(i);
                int there = other.get(i);
                if (here != there) {
                    return here < there ? -1 : 1;
                }
            }
            return 0;
        }

        int checkOf(int length) {
            int check = 7;
            for (int i = 0; i < length; i++) {
                check = (31 * check + get(i)) % 251;
            }
            return check;
        }
    }

    /** Tokens of the text of a table, one at a time. */
    private static final class Lexer {
        private static final int END = 0;
        private static final int LETTERS = 1;
        private static final int DIGITS = 2;
        private static final int SIGN = 3;
        private static final int BAD = 4;

        private final Bytes text;
        private final int length;
        private int position;
        private int sort;
        private int start;
        private long content;

        Lexer(Bytes text, int length) {
            this.text = text;
            this.length = length;
            position = 0;
            sort = BAD;
            start = 0;
            content = 0;
        }

        void advance() {
            while (position < length && text.get(position) == ' ') {
                position++;
            }
            start = position;
            content = 0;
            if (position >= length) {
                sort = END;
                return;
            }
            int first = text.get(position);
            if (isLetter(first)) {
                takeLetters();
            } else if (isDigit(first)) {
                takeDigits();
            } else {
                sort = first == ';' || first == ',' || first == '-' ? SIGN : BAD;
                content = first;
                position++;
            }
        }

        private void takeLetters() {
            while (position < length && isLetter(text.get(position))) {
                content = content << 8 | text.get(position);
                position++;
            }
            sort = position - start <= LETTER_ROOM ? LETTERS : BAD;
        }

        private void takeDigits() {
            while (position < length && isDigit(text.get(position))) {
                content = content * 10 + text.get(position) - '0';
                position++;
            }
            sort = position - start <= DIGIT_ROOM ? DIGITS : BAD;
        }

        boolean isSign(char sign) {
            return sort == SIGN && content == sign;
        }

        boolean isWord(long word) {
            return sort == LETTERS && content == word;
        }

        private static boolean isLetter(int sign) {
            return sign >= 'a' && sign <= 'z';
        }

        private static boolean isDigit(int sign) {
            return sign >= '0' && sign <= '9';
        }
    }

    /** Reads the text of a table into a table that nobody uses yet; stops at the first fault. */
    private static final class Parser {
        private static final int FORM = 1;
        private static final int UNTOLD = 2;
        private static final int AGAIN = 3;
        private static final int MANY = 4;
        private static final int LACKS = 5;

        // Words as longs of their letters, like those of the text.
        private static final long TABLE_WORD = 0x7461626c65L;
        private static final long ORDER_WORD = 0x6f72646572L;
        private static final long ROW_WORD = 0x726f77L;
        private static final long NUMBER_WORD = 0x6e756d626572L;
        private static final long WORD_WORD = 0x776f7264L;
        private static final long UP_WORD = 0x7570L;
        private static final long DOWN_WORD = 0x646f776eL;
        private static final long FIRST_WORD = 0x6669727374L;
        private static final long NONE_WORD = 0x6e6f6e65L;

        private final Lexer lexer;
        private final Table told;
        private int fault;
        private int place;

        Parser(Bytes text, int length, Table told) {
            lexer = new Lexer(text, length);
            this.told = told;
            fault = 0;
            place = NONE;
        }

        boolean readTable() {
            lexer.advance();
            for (int lines = 0; lines < TAPE_ROOM; lines++) {
                boolean whole = lexer.isWord(TABLE_WORD) ? readColumns()
                        : lexer.isWord(ORDER_WORD) ? readOrder()
                        : lexer.isWord(ROW_WORD) ? readRow()
                        : fails(FORM);
                if (!whole) {
                    return false;
                }
                if (lexer.sort == Lexer.END) {
                    return told.order.count > 0 || fails(LACKS);
                }
                if (!lexer.isSign(';')) {
                    return fails(FORM);
                }
                lexer.advance();
            }
            return fails(FORM);
        }

        private boolean fails(int number) {
            fault = number;
            place = lexer.start;
            return false;
        }

        private boolean readColumns() {
            if (told.columns > 0) {
                return fails(AGAIN);
            }
            for (int i = 0; i < COLUMN_ROOM; i++) {
                lexer.advance();
                if (!readColumn()) {
                    return false;
                }
                if (!lexer.isSign(',')) {
                    return true;
                }
            }
            return fails(FORM);
        }

        private boolean readColumn() {
            if (lexer.sort != Lexer.LETTERS) {
                return fails(FORM);
            }
            long name = lexer.content;
            if (told.columnOf(name) != NONE) {
                return fails(AGAIN);
            }
            lexer.advance();
            if (!lexer.isWord(NUMBER_WORD) && !lexer.isWord(WORD_WORD)) {
                return fails(FORM);
            }
            told.addColumn(name, lexer.isWord(WORD_WORD) ? WORD : NUMBER);
            lexer.advance();
            return true;
        }

        private boolean readOrder() {
            if (told.columns == 0) {
                return fails(LACKS);
            }
            if (told.order.count > 0) {
                return fails(AGAIN);
            }
            // The name behind the last column's can only be one again or untold: one round more meets it.
            for (int i = 0; i <= COLUMN_ROOM; i++) {
                lexer.advance();
                if (!readOrdered()) {
                    return false;
                }
                if (!lexer.isSign(',')) {
                    return true;
                }
            }
            return fails(FORM);
        }

        private boolean readOrdered() {
            if (lexer.sort != Lexer.LETTERS) {
                return fails(FORM);
            }
            int column = told.columnOf(lexer.content);
            if (column == NONE) {
                return fails(UNTOLD);
            }
            if (told.order.has(column)) {
                return fails(AGAIN);
            }
            lexer.advance();
            if (!lexer.isWord(UP_WORD) && !lexer.isWord(DOWN_WORD)) {
                return fails(FORM);
            }
            boolean down = lexer.isWord(DOWN_WORD);
            lexer.advance();
            boolean first = lexer.isWord(FIRST_WORD);
            if (first) {
                lexer.advance();
            }
            told.order.add(column, told.kinds[column], down, first);
            return true;
        }

        private boolean readRow() {
            if (told.columns == 0 || told.order.count == 0) {
                return fails(LACKS);
            }
            if (told.rows.given >= TOLD_ROOM) {
                return fails(MANY);
            }
            lexer.advance();
            int id = told.rows.add();
            for (int column = 0; column < told.columns; column++) {
                if (!readValue(id, column)) {
                    return false;
                }
            }
            return true;
        }

        private boolean readValue(int id, int column) {
            boolean isNumber = told.kinds[column] == NUMBER;
            boolean below = isNumber && lexer.isSign('-');
            if (below) {
                lexer.advance();
            }
            boolean missing = !below && lexer.isWord(NONE_WORD);
            if (!missing && lexer.sort != (isNumber ? Lexer.DIGITS : Lexer.LETTERS)) {
                return fails(FORM);
            }
            long value = below ? -lexer.content : lexer.content;
            told.rows.write(id, column, missing ? MISSING : value);
            lexer.advance();
            return true;
        }
    }

    /** Rows by ids; one that has gone leaves its values, so that it can be shown as it was. */
    private static final class Rows {
        private final boolean[] there;
        private final long[] values;
        private int given;
        private int count;

        Rows() {
            there = new boolean[ID_ROOM];
            values = new long[ID_ROOM * COLUMN_ROOM];
            given = 0;
            count = 0;
        }

        boolean has(int id) {
            return id >= 0 && id < ID_ROOM && there[id];
        }

        int add() {
            int id = given;
            if (id < ID_ROOM) {
                given++;
                set(id, true);
            }
            return id;
        }

        void set(int id, boolean now) {
            if (id >= 0 && id < ID_ROOM && there[id] != now) {
                there[id] = now;
                count += now ? 1 : -1;
            }
        }

        private static boolean isCell(int id, int column) {
            return id >= 0 && id < ID_ROOM && column >= 0 && column < COLUMN_ROOM;
        }

        long read(int id, int column) {
            return isCell(id, column) ? values[id * COLUMN_ROOM + column] : MISSING;
        }

        void write(int id, int column, long number) {
            if (isCell(id, column)) {
                values[id * COLUMN_ROOM + column] = number;
            }
        }

        void copy(Rows from) {
            given = from.given;
            count = from.count;
            System.arraycopy(from.values, 0, values, 0, ID_ROOM * COLUMN_ROOM);
            for (int id = 0; id < ID_ROOM; id++) {
                there[id] = from.there[id];
            }
        }
    }

    /** The latest acts, each with what it takes to take it back. */
    private static final class Acts {
        private static final int CAME = 0;
        private static final int WENT = 1;
        private static final int CHANGED = 2;

        private final int[] sorts;
        private final int[] ids;
        private final int[] columns;
        private final long[] olds;
        private int version;

        Acts() {
            sorts = new int[ACT_ROOM];
            ids = new int[ACT_ROOM];
            columns = new int[ACT_ROOM];
            olds = new long[ACT_ROOM];
            version = 0;
        }

        int earliest() {
            return Math.max(0, version - ACT_ROOM);
        }

        boolean canView(int wanted) {
            return wanted >= earliest() && wanted <= version;
        }

        void note(int sort, int id, int column, long old) {
            int slot = Math.floorMod(version, ACT_ROOM);
            sorts[slot] = sort;
            ids[slot] = id;
            columns[slot] = column;
            olds[slot] = old;
            version++;
        }

        void takeBack(Rows rows, int wanted) {
            for (int act = version - 1; act >= wanted && act >= earliest(); act--) {
                int slot = Math.floorMod(act, ACT_ROOM);
                if (sorts[slot] == CHANGED) {
                    rows.write(ids[slot], columns[slot], olds[slot]);
                } else {
                    rows.set(ids[slot], sorts[slot] == WENT);
                }
            }
        }
    }

    /** The columns by which rows are in order, and the keys that say so. */
    private static final class Order {
        private static final int AHEAD = 0;
        private static final int PRESENT = 1;
        private static final int LAST = 2;

        private final int[] columns;
        private final int[] kinds;
        private final boolean[] downs;
        private final boolean[] firsts;
        private int count;

        Order() {
            columns = new int[COLUMN_ROOM];
            kinds = new int[COLUMN_ROOM];
            downs = new boolean[COLUMN_ROOM];
            firsts = new boolean[COLUMN_ROOM];
            count = 0;
        }

        void add(int column, int sort, boolean down, boolean first) {
            if (count < COLUMN_ROOM) {
                columns[count] = column;
                kinds[count] = sort;
                downs[count] = down;
                firsts[count] = first;
                count++;
            }
        }

        boolean has(int column) {
            for (int i = 0; i < count; i++) {
                if (columns[i] == column) {
                    return true;
                }
            }
            return false;
        }

        /** How many columns the codes of a turn tell; 0 if they tell none, or wrongly. */
        static int lengthOf(int[] codes, int columns) {
            int length = 0;
            int used = 0;
            boolean over = false;
            for (int code : codes) {
                int column = code >> 2;
                if (code == -1) {
                    over = true;
                } else if (over || column < 0 || column >= columns || (used >> column & 1) != 0) {
                    return 0;
                } else {
                    used |= 1 << column;
                    length++;
                }
            }
            return length;
        }

        void writeKey(Rows rows, int id, Bytes out) {
            out.empty();
            for (int i = 0; i < count; i++) {
                writePart(i, rows.read(id, columns[i]), out);
            }
            out.putTwo(id);
        }

        /** No part is the beginning of another one of its column, so the first column's alone can be sought by. */
        void writePart(int i, long value, Bytes out) {
            if (i < 0 || i >= count) {
                return;
            }
            if (value == MISSING) {
                out.put(firsts[i] ? AHEAD : LAST);
                return;
            }
            out.put(PRESENT);
            int turner = downs[i] ? 255 : 0;
            if (kinds[i] == NUMBER) {
                int raised = (int) value + 32768;
                out.put(raised >> 8 ^ turner);
                out.put(raised ^ turner);
                return;
            }
            for (int shift = 40; shift >= 0; shift -= 8) {
                if (value >> shift != 0) {
                    out.put((int) (value >> shift) ^ turner);
                }
            }
            out.put(turner);
        }
    }

    /** Conditions, all of which a row must meet to pass. */
    private static final class Sieve {
        private static final int EQUAL = 0;
        private static final int BELOW = 1;
        private static final int LACKING = 3;
        private static final int TOLD = 4;

        private final int[] columns;
        private final int[] kinds;
        private final int[] hows;
        private final long[] values;
        private int count;

        Sieve() {
            columns = new int[CONDITION_ROOM];
            kinds = new int[CONDITION_ROOM];
            hows = new int[CONDITION_ROOM];
            values = new long[CONDITION_ROOM];
            count = 0;
        }

        void add(int column, int sort, int how, long number) {
            if (count < CONDITION_ROOM) {
                columns[count] = column;
                kinds[count] = sort;
                hows[count] = how;
                values[count] = number;
                count++;
            }
        }

        boolean lets(Rows rows, int id) {
            for (int i = 0; i < count; i++) {
                if (!meets(i, rows.read(id, columns[i]))) {
                    return false;
                }
            }
            return true;
        }

        private boolean meets(int i, long number) {
            int how = hows[i];
            if (number == MISSING) {
                return how == LACKING;
            }
            if (how >= LACKING) {
                return how == TOLD;
            }
            int compared = kinds[i] == NUMBER
                    ? Long.compare(number, values[i])
                    : Long.compare(raisedWord(number), raisedWord(values[i]));
            if (how == EQUAL) {
                return compared == 0;
            }
            return how == BELOW ? compared < 0 : compared > 0;
        }
    }

    /** A table as it is, and what is remembered of it. */
    private static final class Table {
        private final long[] names;
        private final int[] kinds;
        private final Order order;
        private final Sieve sieve;
        private final Rows rows;
        private final Acts acts;
        private final int[] touched;
        private int columns;
        private int turns;

        Table() {
            names = new long[COLUMN_ROOM];
            kinds = new int[COLUMN_ROOM];
            order = new Order();
            sieve = new Sieve();
            rows = new Rows();
            acts = new Acts();
            touched = new int[ID_ROOM];
            columns = 0;
            turns = 0;
        }

        void addColumn(long name, int sort) {
            if (columns < COLUMN_ROOM) {
                names[columns] = name;
                kinds[columns] = sort;
                columns++;
            }
        }

        int columnOf(long name) {
            for (int column = 0; column < columns; column++) {
                if (names[column] == name) {
                    return column;
                }
            }
            return NONE;
        }

        boolean canHold(int column, long number) {
            if (column < 0 || column >= columns) {
                return false;
            }
            if (number == MISSING) {
                return true;
            }
            return kinds[column] == WORD ? isWordValue(number) : number >= -LARGEST && number <= LARGEST;
        }

        boolean lacksValue(int id) {
            for (int column = 0; column < columns; column++) {
                if (rows.read(id, column) == MISSING) {
                    return true;
                }
            }
            return false;
        }
    }

    /** The rows of a version in order, and a stretch of those that pass. */
    private static final class View {
        private final Rows rows;
        private final int[] ids;
        private final Bytes[] keys;
        private final int[] passing;
        private int count;
        private int passed;
        private int first;
        private int end;
        private Table of;
        private int version;
        private int turns;

        View() {
            rows = new Rows();
            ids = new int[ROW_ROOM];
            keys = new Bytes[ROW_ROOM];
            for (int i = 0; i < ROW_ROOM; i++) {
                keys[i] = new Bytes(KEY_ROOM);
            }
            passing = new int[ROW_ROOM];
            count = 0;
            passed = 0;
            first = 0;
            end = 0;
            of = null;
            version = 0;
            turns = 0;
        }

        /** What is shown already is not made anew: a version's rows never change, its order only by a turn. */
        void show(Table table, int wanted) {
            if (of == table && version == wanted && turns == table.turns) {
                return;
            }
            of = table;
            version = wanted;
            turns = table.turns;
            rows.copy(table.rows);
            table.acts.takeBack(rows, wanted);
            count = 0;
            passed = 0;
            for (int id = 0; id < rows.given; id++) {
                if (rows.has(id)) {
                    enter(id, table.order);
                }
            }
            for (int at = 0; at < count; at++) {
                if (table.sieve.lets(rows, ids[at])) {
                    passing[passed] = at;
                    passed++;
                }
            }
        }

        private void enter(int id, Order order) {
            if (count >= ROW_ROOM) {
                return;
            }
            Bytes key = keys[count];
            order.writeKey(rows, id, key);
            int low = 0;
            int high = count;
            while (low < high) {
                int middle = (low + high) / 2;
                if (keys[middle].against(key) < 0) {
                    low = middle + 1;
                } else {
                    high = middle;
                }
            }
            for (int i = count; i > low; i--) {
                keys[i] = keys[i - 1];
                ids[i] = ids[i - 1];
            }
            keys[low] = key;
            ids[low] = id;
            count++;
        }

        int placeOf(int id) {
            for (int at = 0; at < count; at++) {
                if (ids[at] == id) {
                    return at;
                }
            }
            return NONE;
        }

        Bytes keyAt(int at) {
            return keys[Math.max(0, Math.min(at, ROW_ROOM - 1))];
        }

        int idPassing(int i) {
            return ids[passing[i]];
        }

        Bytes keyPassing(int i) {
            return keys[passing[i]];
        }

        int countBelow(Bytes key) {
            int below = 0;
            while (below < passed && keyPassing(below).against(key) < 0) {
                below++;
            }
            return below;
        }

        int countNotAbove(Bytes key) {
            int notAbove = 0;
            while (notAbove < passed && keyPassing(notAbove).against(key) <= 0) {
                notAbove++;
            }
            return notAbove;
        }

        void chooseFrom(int from, int size) {
            first = from;
            end = Math.min(from + size, passed);
        }

        void chooseBeside(Bytes key, int size, boolean onward) {
            if (onward) {
                chooseFrom(countNotAbove(key), size);
            } else {
                end = countBelow(key);
                first = Math.max(0, end - size);
            }
        }
    }

    /** The page that was asked for latest, kept as it was then. */
    private static final class Page {
        private final int[] ids;
        private final long[] values;
        private final Bytes before;
        private final Bytes after;
        private final Bytes asked;
        private boolean there;
        private int count;
        private int ahead;
        private int behind;

        Page() {
            ids = new int[PAGE_ROOM];
            values = new long[PAGE_ROOM * COLUMN_ROOM];
            before = new Bytes(TOKEN_HEAD + KEY_ROOM + 1);
            after = new Bytes(TOKEN_HEAD + KEY_ROOM + 1);
            asked = new Bytes(TAPE_ROOM);
            there = false;
            count = 0;
            ahead = 0;
            behind = 0;
        }

        boolean has(int i) {
            return there && i >= 0 && i < count;
        }

        Bytes tokenOf(int which) {
            if (count == 0) {
                return asked;
            }
            return which == 0 ? before : after;
        }

        void fill(View view, int size, int stamp) {
            there = true;
            count = 0;
            for (int i = view.first; i < view.end && count < PAGE_ROOM; i++) {
                int id = view.idPassing(i);
                ids[count] = id;
                for (int column = 0; column < COLUMN_ROOM; column++) {
                    values[count * COLUMN_ROOM + column] = view.rows.read(id, column);
                }
                count++;
            }
            asked.empty();
            ahead = 0;
            behind = 0;
            if (count > 0) {
                ahead = view.first;
                behind = view.passed - view.end;
                writeToken(before, view, view.first, size, stamp);
                writeToken(after, view, view.end - 1, size, stamp);
            }
        }

        /** An empty page has no row of its own to go on from, only the token that led to it. */
        void keepToken(Bytes token, int length, View view, Bytes key) {
            if (count == 0) {
                asked.append(token, 0, length);
                ahead = view.countBelow(key);
                behind = view.passed - view.countNotAbove(key);
            }
        }

        private static void writeToken(Bytes out, View view, int i, int size, int stamp) {
            Bytes key = view.keyPassing(i);
            out.empty();
            out.put(TOKEN_MARK);
            out.put(view.turns);
            out.put(size);
            out.putTwo(stamp);
            out.append(key, 0, key.count);
            out.put(out.checkOf(out.count));
        }
    }

    /** One who goes through the rows, and what was seen on the way; the empty key, below all, stands ahead of them. */
    private static final class Reader {
        private final int[] sights;
        private final int[] sightings;
        private final Bytes key;
        private boolean begun;
        private boolean stable;
        private boolean ended;
        private int size;
        private int version;
        private int pages;

        Reader() {
            sights = new int[ID_ROOM];
            sightings = new int[ID_ROOM];
            key = new Bytes(KEY_ROOM);
            begun = false;
            stable = false;
            ended = false;
            size = 0;
            version = 0;
            pages = 0;
        }

        void start(int pageSize, boolean isStable, int now) {
            begun = true;
            stable = isStable;
            ended = false;
            size = pageSize;
            version = now;
            pages = 0;
            key.empty();
            for (int id = 0; id < ID_ROOM; id++) {
                sights[id] = 0;
                sightings[id] = 0;
            }
        }

        void take(View view, boolean onward, int now) {
            pages++;
            for (int i = view.first; i < view.end; i++) {
                int id = view.idPassing(i);
                sights[id]++;
                sightings[id] = now;
            }
            if (view.first < view.end) {
                Bytes reached = view.keyPassing(onward ? view.end - 1 : view.first);
                key.empty();
                key.append(reached, 0, reached.count);
                ended = false;
            } else if (onward) {
                ended = true;
            }
        }

        boolean counts(int what, int id, Table table) {
            boolean there = table.rows.has(id);
            switch (what) {
                case 0:
                    return sights[id] == 1;
                case 1:
                    return sights[id] > 1;
                case 2:
                    return there && sights[id] == 0 && table.sieve.lets(table.rows, id);
                case 3:
                    return !there && sights[id] > 0;
                default:
                    return there && sights[id] > 0 && table.touched[id] > sightings[id];
            }
        }
    }
}
