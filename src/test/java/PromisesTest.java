/** Each promise by itself, its edges and its refusals; the faults of texts are FaultsTest's. */
public final class PromisesTest {
    private static final Due due = new Due();
    private static final long MISSING = Long.MIN_VALUE;

    /** In order: 4 (-2 bb), 3 (5 none), 1 (5 bob), 0 (5 ann), 2 (none zed). */
    private static final String PEOPLE = "table age number,name word;order age up,name down first;"
        + "row 5 ann;row 5 bob;row none zed;row 5 none;row -2 bb";

    public static void main(String[] args) {
        newObject();
        feedAndTable();
        aboutKindOrder();
        values();
        past();
        keys();
        ranks();
        differences();
        pages();
        onAndBackByTokens();
        tokensRefused();
        oddTokens();
        stablePages();
        seeks();
        pageStays();
        readersBegin();
        readersGo();
        readersAccount();
        readersOfThePast();
        inserts();
        removes();
        changes();
        turns();
        sieves();
        sieveOverVersions();
        lackingOnes();
        sizes();
        troubles();
        due.end("PromisesTest");
    }

    // 1
    private static void newObject() {
        DriftPages x = new DriftPages();
        due.is("NONE", DriftPages.NONE, -1);
        due.is("trouble()", x.trouble(), 0);
        due.is("fault()", x.fault(), 0);
        due.is("where()", x.where(), -1);
        due.refused(x, "about(0)", x.about(0), 1);
        due.refused(x, "kind(0)", x.kind(0), 1);
        due.refused(x, "orderAt(0, 0)", x.orderAt(0, 0), 1);
        due.refusedValue(x, "value(0, 0)", x.value(0, 0), 1);
        due.refusedValue(x, "was(0, 0, 0)", x.was(0, 0, 0), 1);
        due.refused(x, "keySize(0)", x.keySize(0), 1);
        due.refused(x, "keyByte(0, 0)", x.keyByte(0, 0), 1);
        due.refused(x, "rank(0)", x.rank(0), 1);
        due.refused(x, "ranked(0)", x.ranked(0), 1);
        due.refused(x, "differ(0, 1)", x.differ(0, 1), 1);
        due.refused(x, "page(0, false)", x.page(0, false), 1);
        due.refused(x, "next(-1)", x.next(-1), 1);
        due.refused(x, "previous(-1)", x.previous(-1), 1);
        due.refused(x, "seek(0, 0)", x.seek(0, 0), 1);
        due.refused(x, "at(0)", x.at(0), 1);
        due.refusedValue(x, "cell(0, 0)", x.cell(0, 0), 1);
        due.refused(x, "tokenSize(0)", x.tokenSize(0), 1);
        due.refused(x, "tokenByte(0, 0)", x.tokenByte(0, 0), 1);
        due.refused(x, "beyond(0)", x.beyond(0), 1);
        due.refused(x, "checks(-1)", x.checks(-1), 1);
        due.is("begin(0, 0, true)", x.begin(0, 0, true) ? 1 : 0, 0);
        due.is("trouble()", x.trouble(), 1);
        due.refused(x, "on(0)", x.on(0), 1);
        due.refused(x, "back(0)", x.back(0), 1);
        due.refused(x, "account(0, 0)", x.account(0, 0), 1);
        due.refused(x, "seen(0, 0)", x.seen(0, 0), 1);
        due.refused(x, "insert", x.insert(0, 0, 0, 0), 1);
        due.refused(x, "remove(0)", x.remove(0), 1);
        due.refused(x, "change(0, 0, 0)", x.change(0, 0, 0), 1);
        due.refused(x, "turn", x.turn(-1, -1, -1, -1), 1);
        due.refused(x, "sieve(0, 9, 0)", x.sieve(0, 9, 0), 1);
        due.refused(x, "clear()", x.clear(), 1);
        due.refused(x, "passes(0)", x.passes(0), 1);
        due.refused(x, "condition(0, 0)", x.condition(0, 0), 1);
        due.throwsNone(x, 0);
        for (int what = 0; what < 4; what++) {
            due.is("size", x.size(what), 0);
        }
    }

    // 2, 3
    private static void feedAndTable() {
        DriftPages x = new DriftPages();
        due.is("feed", x.feed(0x7461626c, 0x65206120, 0x6e756d62, 0x65723b6f, 0x72646572), 20);
        due.is("feed", x.feed(0x20612075, 0x703b726f, 0x7720373b, 0x726f7720, 0x38202020), 40);
        due.answered(x, "table(31), of which behind it nothing is left", x.table(31), 1);
        due.is("value(0, 0)", x.value(0, 0), 7);
        due.is("size(0)", x.size(0), 0);
    }

    // 6, 7, 8
    private static void aboutKindOrder() {
        DriftPages x = Due.of(PEOPLE);
        int[] about = {2, 2, 5, 5, 0, 0, 0};
        for (int what = 0; what < about.length; what++) {
            due.answered(x, "about(" + what + ")", x.about(what), about[what]);
        }
        due.refused(x, "about(-1)", x.about(-1), 1);
        due.refused(x, "about(7)", x.about(7), 1);
        due.answered(x, "kind(0)", x.kind(0), 0);
        due.answered(x, "kind(1)", x.kind(1), 1);
        due.refused(x, "kind(2)", x.kind(2), 1);
        due.refused(x, "kind(-1)", x.kind(-1), 1);
        int[][] order = {{0, 0, 0}, {1, 1, 1}};
        for (int i = 0; i < 2; i++) {
            for (int what = 0; what < 3; what++) {
                due.answered(x, "orderAt(" + i + ", " + what + ")", x.orderAt(i, what), order[i][what]);
            }
        }
        due.refused(x, "orderAt(2, 0)", x.orderAt(2, 0), 1);
        due.refused(x, "orderAt(-1, 0)", x.orderAt(-1, 0), 1);
        due.refused(x, "orderAt(0, 3)", x.orderAt(0, 3), 1);
        due.refused(x, "orderAt(0, -1)", x.orderAt(0, -1), 1);
        for (int i = 0; i < 50; i++) {
            x.change(0, 0, i);
        }
        x.remove(1);
        x.turn(4, -1, -1, -1);
        x.clear();
        int[] later = {2, 1, 4, 5, 51, 2, 11};
        for (int what = 0; what < later.length; what++) {
            due.answered(x, "later about(" + what + ")", x.about(what), later[what]);
        }
    }

    // 9
    private static void values() {
        DriftPages x = Due.of(PEOPLE);
        due.answered(x, "value(0, 0)", x.value(0, 0), 5);
        due.answered(x, "value(1, 1)", x.value(1, 1), Due.word("bob"));
        due.answered(x, "value(4, 0)", x.value(4, 0), -2);
        due.answered(x, "a MISSING value(2, 0)", x.value(2, 0), MISSING);
        due.refusedValue(x, "value(5, 0)", x.value(5, 0), 1);
        due.refusedValue(x, "value(-1, 0)", x.value(-1, 0), 1);
        due.refusedValue(x, "value(64, 0)", x.value(64, 0), 1);
        due.refusedValue(x, "value(0, 2)", x.value(0, 2), 1);
        due.refusedValue(x, "value(0, -1)", x.value(0, -1), 1);
        x.remove(0);
        due.refusedValue(x, "value(0, 0) of a ROW that went", x.value(0, 0), 1);
    }

    // 10
    private static void past() {
        DriftPages x = Due.of("table a number;order a up;row 1");
        for (int i = 1; i <= 40; i++) {
            x.change(0, 0, 100 + i);
        }
        due.answered(x, "was(0, 0, 0)", x.was(0, 0, 0), 1);
        due.answered(x, "was(39, 0, 0)", x.was(39, 0, 0), 139);
        due.answered(x, "was(40, 0, 0)", x.was(40, 0, 0), 140);
        due.refusedValue(x, "was(41, 9, 9)", x.was(41, 9, 9), 8);
        due.refusedValue(x, "was(-1, 0, 0)", x.was(-1, 0, 0), 8);
        x.remove(0);
        due.refusedValue(x, "was(0, 0, 0)", x.was(0, 0, 0), 8);
        due.answered(x, "was(1, 0, 0)", x.was(1, 0, 0), 101);
        due.refusedValue(x, "was(41, 0, 0)", x.was(41, 0, 0), 1);
        due.refusedValue(x, "was(40, 0, 1)", x.was(40, 0, 1), 1);
        due.refusedValue(x, "was(40, 0, -1)", x.was(40, 0, -1), 1);
        due.refusedValue(x, "was(40, 99, 0)", x.was(40, 99, 0), 1);
        x.insert(MISSING, 0, 0, 0);
        due.refusedValue(x, "was(41, 1, 0)", x.was(41, 1, 0), 1);
        due.answered(x, "was(42, 1, 0)", x.was(42, 1, 0), MISSING);
        due.answered(x, "was(40, 0, 0)", x.was(40, 0, 0), 140);
    }

    // 11, 12
    private static void keys() {
        DriftPages x = Due.of(PEOPLE);
        keyIs(x, 0, 1, 128, 5, 1, 158, 145, 145, 255, 0, 0);
        keyIs(x, 2, 2, 1, 133, 154, 155, 255, 0, 2);
        keyIs(x, 3, 1, 128, 5, 0, 0, 3);
        keyIs(x, 4, 1, 127, 254, 1, 157, 157, 255, 0, 4);
        x.turn(7, 2, -1, -1);
        keyIs(x, 0, 1, 158, 145, 145, 255, 1, 127, 250, 0, 0);
        x.turn(4, 1, -1, -1);
        keyIs(x, 0, 1, 97, 110, 110, 0, 1, 128, 5, 0, 0);
        keyIs(x, 2, 1, 122, 101, 100, 0, 0, 0, 2);
        keyIs(x, 3, 2, 1, 128, 5, 0, 3);
        x.change(0, 0, -9999);
        x.change(1, 0, 9999);
        x.change(2, 1, Due.word("zzzzzz"));
        keyIs(x, 0, 1, 97, 110, 110, 0, 1, 88, 241, 0, 0);
        keyIs(x, 1, 1, 98, 111, 98, 0, 1, 167, 15, 0, 1);
        keyIs(x, 2, 1, 122, 122, 122, 122, 122, 122, 0, 0, 0, 2);
        due.refused(x, "keySize(5)", x.keySize(5), 1);
        due.refused(x, "keyByte(5, 0)", x.keyByte(5, 0), 1);
        due.refused(x, "keyByte(0, -1)", x.keyByte(0, -1), 1);
        DriftPages w = Due.of("table a word,b word,c word,d word;order a up,b down,c up,d down;"
            + "row zzzzzz zzzzzz zzzzzz zzzzzz");
        due.answered(w, "the longest KEY", w.keySize(0), 34);
        due.is("its AFTER", w.page(1, false) == 1 ? w.tokenSize(1) : -9, 40);
    }

    private static void keyIs(DriftPages x, int id, int... bytes) {
        due.answered(x, "keySize(" + id + ")", x.keySize(id), bytes.length);
        for (int i = 0; i < bytes.length; i++) {
            due.answered(x, "keyByte(" + id + ", " + i + ")", x.keyByte(id, i), bytes[i]);
        }
        due.refused(x, "keyByte behind all", x.keyByte(id, bytes.length), 1);
    }

    // 13, 14
    private static void ranks() {
        DriftPages x = Due.of(PEOPLE);
        orderIs(x, 4, 3, 1, 0, 2);
        x.sieve(1, 0, Due.word("ann"));
        orderIs(x, 4, 3, 1, 0, 2);
        due.refused(x, "rank(5)", x.rank(5), 1);
        due.refused(x, "rank(-1)", x.rank(-1), 1);
        due.refused(x, "ranked(-1)", x.ranked(-1), 1);
        x.remove(1);
        due.refused(x, "rank(1)", x.rank(1), 1);
        orderIs(x, 4, 3, 0, 2);
        DriftPages w = Due.of("table a word;order a up;row ab;row a;row b;row abc;row ab;row none");
        orderIs(w, 1, 0, 4, 3, 2, 5);
        w.turn(2, -1, -1, -1);
        orderIs(w, 2, 3, 0, 4, 1, 5);
        w.turn(3, -1, -1, -1);
        orderIs(w, 5, 2, 3, 0, 4, 1);
    }

    private static void orderIs(DriftPages x, int... ids) {
        for (int k = 0; k < ids.length; k++) {
            due.answered(x, "ranked(" + k + ")", x.ranked(k), ids[k]);
            due.answered(x, "rank(" + ids[k] + ")", x.rank(ids[k]), k);
        }
        due.refused(x, "ranked behind all", x.ranked(ids.length), 1);
    }

    // 15
    private static void differences() {
        DriftPages x = Due.of("table a number,b word,c number;order b up,a up;"
            + "row 1 x 1;row 1 x 2;row 2 x 1;row none x 1;row none none 1;row none none 2");
        due.answered(x, "differ(0, 1)", x.differ(0, 1), -2);
        due.answered(x, "differ(0, 2)", x.differ(0, 2), 1);
        due.answered(x, "differ(3, 0)", x.differ(3, 0), 1);
        due.answered(x, "differ(4, 0)", x.differ(4, 0), 0);
        due.answered(x, "differ(4, 5)", x.differ(4, 5), -2);
        due.refused(x, "differ(0, 0)", x.differ(0, 0), 1);
        due.refused(x, "differ(0, 6)", x.differ(0, 6), 1);
        due.refused(x, "differ(6, 0)", x.differ(6, 0), 1);
        due.refused(x, "differ(-1, 0)", x.differ(-1, 0), 1);
    }

    // 16, 20 to 24
    private static void pages() {
        DriftPages x = Due.of(PEOPLE);
        due.refused(x, "at(0) without a PAGE", x.at(0), 1);
        due.refused(x, "beyond(0) without a PAGE", x.beyond(0), 1);
        due.answered(x, "page(20, false)", x.page(20, false), 5);
        due.pageIs(x, "4 3 1 0 2");
        due.refused(x, "page(0, false)", x.page(0, false), 2);
        due.refused(x, "page(21, false)", x.page(21, false), 2);
        due.pageIs(x, "4 3 1 0 2");
        due.answered(x, "page(1, false)", x.page(1, false), 1);
        due.answered(x, "at(0)", x.at(0), 4);
        due.refused(x, "at(1)", x.at(1), 1);
        due.refused(x, "at(-1)", x.at(-1), 1);
        due.answered(x, "cell(0, 0)", x.cell(0, 0), -2);
        due.answered(x, "cell(0, 1)", x.cell(0, 1), Due.word("bb"));
        due.refusedValue(x, "cell(0, 2)", x.cell(0, 2), 1);
        due.refusedValue(x, "cell(0, -1)", x.cell(0, -1), 1);
        due.refusedValue(x, "cell(1, 0)", x.cell(1, 0), 1);
        due.answered(x, "beyond(0)", x.beyond(0), 0);
        due.answered(x, "beyond(1)", x.beyond(1), 4);
        due.refused(x, "beyond(2)", x.beyond(2), 1);
        due.refused(x, "beyond(-1)", x.beyond(-1), 1);
        x.page(2, false);
        tokenIs(x, 0, Due.checked(84, 0, 2, 0, 0, 1, 127, 254, 1, 157, 157, 255, 0, 4));
        tokenIs(x, 1, Due.checked(84, 0, 2, 0, 0, 1, 128, 5, 0, 0, 3));
        due.refused(x, "tokenSize(2)", x.tokenSize(2), 1);
        due.refused(x, "tokenSize(-1)", x.tokenSize(-1), 1);
        due.refused(x, "tokenByte(2, 0)", x.tokenByte(2, 0), 1);
        due.refused(x, "tokenByte(0, -1)", x.tokenByte(0, -1), 1);
        x.sieve(0, 0, 77);
        due.answered(x, "page(2, true), empty", x.page(2, true), 0);
        due.answered(x, "tokenSize(0), none", x.tokenSize(0), 0);
        due.answered(x, "tokenSize(1), none", x.tokenSize(1), 0);
        due.refused(x, "tokenByte(0, 0)", x.tokenByte(0, 0), 1);
        due.answered(x, "beyond(0)", x.beyond(0), 0);
        due.answered(x, "beyond(1)", x.beyond(1), 0);
        due.refused(x, "at(0)", x.at(0), 1);
    }

    private static void tokenIs(DriftPages x, int which, int... bytes) {
        due.answered(x, "tokenSize(" + which + ")", x.tokenSize(which), bytes.length);
        for (int i = 0; i < bytes.length; i++) {
            due.answered(x, "tokenByte(" + which + ", " + i + ")", x.tokenByte(which, i), bytes[i]);
        }
        due.refused(x, "tokenByte behind all", x.tokenByte(which, bytes.length), 1);
    }

    // 17, 18
    private static void onAndBackByTokens() {
        DriftPages x = Due.of(PEOPLE);
        x.page(2, false);
        int[] ofThree = Due.token(x, 1);
        due.answered(x, "next", Due.next(x, ofThree), 2);
        due.pageIs(x, "1 0");
        due.is("beyond(0)", x.beyond(0), 2);
        due.is("beyond(1)", x.beyond(1), 1);
        due.is("size(0)", x.size(0), 0);
        int[] ofOne = Due.token(x, 0);
        int[] ofNought = Due.token(x, 1);
        due.answered(x, "next", Due.next(x, ofNought), 1);
        due.pageIs(x, "2");
        int[] ofTwo = Due.token(x, 1);
        due.answered(x, "next behind all", Due.next(x, ofTwo), 0);
        tokenIs(x, 0, ofTwo);
        tokenIs(x, 1, ofTwo);
        due.is("beyond(0) of an empty one", x.beyond(0), 4);
        due.is("beyond(1) of an empty one", x.beyond(1), 0);
        due.answered(x, "previous", Due.previous(x, ofTwo), 2);
        due.pageIs(x, "1 0");
        due.answered(x, "previous", Due.previous(x, ofThree), 1);
        due.pageIs(x, "4");
        due.is("beyond(0)", x.beyond(0), 0);
        due.is("beyond(1)", x.beyond(1), 4);
        due.answered(x, "previous ahead of all", Due.previous(x, Due.token(x, 0)), 0);
        due.is("beyond(0) of an empty one", x.beyond(0), 0);
        due.is("beyond(1) of an empty one", x.beyond(1), 4);
        x.remove(1);
        due.answered(x, "next of a ROW that went", Due.next(x, ofOne), 2);
        due.pageIs(x, "0 2");
        due.answered(x, "previous of it", Due.previous(x, ofOne), 2);
        due.pageIs(x, "4 3");
        x.change(0, 0, 9);
        due.answered(x, "next from where a ROW was", Due.next(x, ofNought), 2);
        due.pageIs(x, "0 2");
    }

    // 17, 25: 2, 6, 7, 8
    private static void tokensRefused() {
        DriftPages x = Due.of(PEOPLE);
        x.page(2, true);
        int[] good = Due.token(x, 1);
        Due.feed(x, good);
        due.answered(x, "checks", x.checks(good.length), 0);
        due.refused(x, "checks(-1)", x.checks(-1), 2);
        due.refused(x, "checks(21)", x.checks(21), 2);
        due.refused(x, "next(21)", x.next(21), 2);
        due.refused(x, "previous(-1)", x.previous(-1), 2);
        due.is("THE TAPE stays", x.size(0), 20);
        due.answered(x, "checks(0)", x.checks(0), 6);
        due.refused(x, "next(0)", x.next(0), 6);
        due.is("THE TAPE is empty", x.size(0), 0);
        tokenTrouble(x, 6, 84, 0, 2, 0, 0, 1, Due.checked(84, 0, 2, 0, 0, 1)[6]);
        tokenTrouble(x, 0, Due.checked(84, 0, 2, 0, 0, 1, 2));
        tokenTrouble(x, 6, Due.checked(85, 0, 2, 0, 0, 1, 2));
        tokenTrouble(x, 6, Due.checked(84, 0, 0, 0, 0, 1, 2));
        tokenTrouble(x, 6, Due.checked(84, 0, 21, 0, 0, 1, 2));
        tokenTrouble(x, 6, Due.checked(84, 1, 21, 9, 9, 1, 2));
        tokenTrouble(x, 0, Due.checked(84, 0, 20, 0, 1, 1, 2));
        tokenTrouble(x, 7, Due.checked(84, 1, 20, 9, 9, 1, 2));
        tokenTrouble(x, 7, Due.checked(84, 255, 1, 0, 0, 1, 2));
        tokenTrouble(x, 8, Due.checked(84, 0, 1, 0, 2, 1, 2));
        tokenTrouble(x, 8, Due.checked(84, 0, 1, 255, 255, 1, 2));
        int[] meddled = good.clone();
        meddled[7] ^= 1;
        tokenTrouble(x, 6, meddled);
        for (int i = 0; i < 40; i++) {
            x.change(0, 0, i);
        }
        tokenTrouble(x, 0, good);
        tokenTrouble(x, 0, Due.checked(84, 0, 1, 0, 41, 1, 2));
        x.change(0, 0, 1);
        tokenTrouble(x, 8, good);
        x.turn(0, -1, -1, -1);
        tokenTrouble(x, 7, good);
        for (int i = 0; i < 255; i++) {
            x.turn(0, -1, -1, -1);
        }
        due.is("SCHEMA, modulo 256", x.about(5), 0);
        tokenTrouble(x, 0, Due.checked(84, 0, 2, 0, 0, 1, 2));
    }

    private static void tokenTrouble(DriftPages x, int trouble, int... token) {
        int rows = x.size(1);
        Due.feed(x, token);
        due.answered(x, "checks", x.checks(token.length), trouble);
        if (trouble != 0) {
            due.refused(x, "next", x.next(token.length), trouble);
            due.is("THE TAPE is empty", x.size(0), 0);
            Due.feed(x, token);
            due.refused(x, "previous", x.previous(token.length), trouble);
            due.is("THE TAPE is empty", x.size(0), 0);
            due.is("the PAGE stays", x.size(1), rows);
        } else {
            x.next(token.length);
            due.is("trouble()", x.trouble(), 0);
        }
    }

    // 17, 18: KEYS that no ROW has
    private static void oddTokens() {
        DriftPages x = Due.of("table a number;order a up;row 1;row 2;row 3");
        due.is("next of a KEY's beginning", Due.next(x, Due.checked(84, 0, 9, 0, 0, 1, 128, 2)), 2);
        due.pageIs(x, "1 2");
        due.is("previous of it", Due.previous(x, Due.checked(84, 0, 9, 0, 0, 1, 128, 2)), 1);
        due.is("next of a longer KEY", Due.next(x, Due.checked(84, 0, 9, 0, 0, 1, 128, 2, 0, 1, 0)), 1);
        due.is("previous of it", Due.previous(x, Due.checked(84, 0, 9, 0, 0, 1, 128, 2, 0, 1, 0)), 2);
        int[] ofAll = Due.checked(84, 0, 9, 0, 0, 0, 0);
        due.is("next of a KEY ahead of all", Due.next(x, ofAll), 3);
        due.is("previous of it", Due.previous(x, ofAll), 0);
        tokenIs(x, 1, ofAll);
        due.is("beyond(0)", x.beyond(0), 0);
        due.is("beyond(1)", x.beyond(1), 3);
        x.seek(9, 4);
        due.is("tokenSize(0) of an empty one, by none", x.tokenSize(0), 0);
        due.is("beyond(1)", x.beyond(1), 0);
        int[] head = {84, 0, 9, 0, 0, 1, 255};
        int[] longest = Due.checked(java.util.Arrays.copyOf(head, 899));
        due.is("next of the longest TOKEN", Due.next(x, longest), 0);
        due.is("tokenSize(0)", x.tokenSize(0), 900);
        due.is("tokenByte(1, 899)", x.tokenByte(1, 899), longest[899]);
        due.is("beyond(0)", x.beyond(0), 3);
        due.is("beyond(1)", x.beyond(1), 0);
        due.is("previous of it", Due.previous(x, longest), 3);
        due.is("tokenSize(0)", x.tokenSize(0), 11);
    }

    // 16 to 18, 21: of a VERSION
    private static void stablePages() {
        DriftPages x = Due.of(PEOPLE);
        x.insert(7, MISSING, 0, 0);
        x.page(2, true);
        tokenIs(x, 1, Due.checked(84, 0, 2, 0, 2, 1, 128, 5, 0, 0, 3));
        int[] after = Due.token(x, 1);
        x.remove(0);
        x.change(1, 0, -50);
        x.insert(5, Due.word("bob"), 0, 0);
        due.is("next as it was", Due.next(x, after), 2);
        due.pageIs(x, "1 0");
        due.is("cell(0, 0) as it was", x.cell(0, 0), 5);
        due.is("beyond(0)", x.beyond(0), 2);
        due.is("beyond(1)", x.beyond(1), 2);
        tokenIs(x, 1, Due.checked(84, 0, 2, 0, 2, 1, 128, 5, 1, 158, 145, 145, 255, 0, 0));
        due.is("previous as it was", Due.previous(x, Due.token(x, 0)), 2);
        due.pageIs(x, "4 3");
        due.is("next as it is", Due.next(x, Due.checked(84, 0, 9, 0, 0, 1, 128, 5, 0, 0, 3)), 3);
        due.pageIs(x, "6 5 2");
    }

    // 19
    private static void seeks() {
        DriftPages x = Due.of(PEOPLE);
        due.answered(x, "seek(2, 5)", x.seek(2, 5), 2);
        due.pageIs(x, "3 1");
        due.is("beyond(0)", x.beyond(0), 1);
        due.is("beyond(1)", x.beyond(1), 2);
        tokenIs(x, 0, Due.checked(84, 0, 2, 0, 0, 1, 128, 5, 0, 0, 3));
        due.answered(x, "seek(9, -9999)", x.seek(9, -9999), 5);
        due.answered(x, "seek(9, 6)", x.seek(9, 6), 1);
        due.pageIs(x, "2");
        due.answered(x, "seek(9, MISSING)", x.seek(9, MISSING), 1);
        due.refused(x, "seek(0, 5)", x.seek(0, 5), 2);
        due.refused(x, "seek(21, 5)", x.seek(21, 5), 2);
        due.refused(x, "seek(1, 10000)", x.seek(1, 10000), 2);
        due.refused(x, "seek(1, -10000)", x.seek(1, -10000), 2);
        due.pageIs(x, "2");
        x.turn(6, -1, -1, -1);
        due.answered(x, "seek(9, bc) down", x.seek(9, Due.word("bc")), 3);
        due.pageIs(x, "4 0 3");
        due.answered(x, "seek(9, bobb) down", x.seek(9, Due.word("bobb")), 4);
        due.answered(x, "seek(9, a) down", x.seek(9, Due.word("a")), 1);
        due.refused(x, "seek(1, 5)", x.seek(1, 5), 2);
        due.refused(x, "seek(1, 0)", x.seek(1, 0), 2);
        x.turn(1, -1, -1, -1);
        due.answered(x, "seek(9, MISSING), first", x.seek(9, MISSING), 5);
        due.answered(x, "seek(9, 6), none", x.seek(9, 6), 0);
        due.is("tokenSize(0)", x.tokenSize(0), 0);
        due.is("beyond(0)", x.beyond(0), 0);
        due.is("beyond(1)", x.beyond(1), 0);
        x.sieve(1, 2, Due.word("b"));
        due.answered(x, "seek(9, 5) of those that PASS", x.seek(9, 5), 1);
        due.pageIs(x, "1");
        due.is("beyond(0)", x.beyond(0), 2);
    }

    // 20 to 24: till the next PAGE
    private static void pageStays() {
        DriftPages x = Due.of(PEOPLE);
        x.page(2, false);
        int[] before = Due.token(x, 0);
        x.change(4, 0, 77);
        x.remove(3);
        x.begin(0, 5, false);
        x.on(0);
        x.turn(4, -1, -1, -1);
        due.pageIs(x, "4 3");
        due.is("cell(0, 0)", x.cell(0, 0), -2);
        due.is("beyond(1)", x.beyond(1), 3);
        tokenIs(x, 0, before);
    }

    // 26
    private static void readersBegin() {
        DriftPages x = Due.of(PEOPLE);
        begins(x, -1, 1, false, 1);
        begins(x, 4, 99, false, 1);
        begins(x, 3, 0, false, 2);
        begins(x, 3, 21, true, 2);
        due.is("size(3)", x.size(3), 0);
        begins(x, 3, 20, true, 0);
        begins(x, 0, 1, false, 0);
        due.is("size(3)", x.size(3), 2);
        x.on(0);
        x.on(0);
        begins(x, 0, 0, false, 2);
        due.is("account(0, 6)", x.account(0, 6), 2);
        begins(x, 0, 4, false, 0);
        due.is("account(0, 6) anew", x.account(0, 6), 0);
        due.is("seen(0, 4) anew", x.seen(0, 4), 0);
        due.answered(x, "back(0) anew", x.back(0), 0);
        due.answered(x, "on(0) anew", x.on(0), 4);
        due.is("seen(0, 4)", x.seen(0, 4), 1);
    }

    private static void begins(DriftPages x, int reader, int size, boolean stable, int trouble) {
        due.is("begin(" + reader + ", " + size + ")", x.begin(reader, size, stable) ? 1 : 0, trouble == 0 ? 1 : 0);
        due.is("trouble()", x.trouble(), trouble);
    }

    // 27, 28, 30
    private static void readersGo() {
        DriftPages x = Due.of(PEOPLE);
        due.refused(x, "on(1)", x.on(1), 1);
        due.refused(x, "on(4)", x.on(4), 1);
        due.refused(x, "back(-1)", x.back(-1), 1);
        due.refused(x, "seen(1, 0)", x.seen(1, 0), 1);
        x.begin(1, 2, false);
        due.answered(x, "back(1) ahead of all", x.back(1), 0);
        due.is("ENDED", x.account(1, 5), 0);
        due.answered(x, "on(1)", x.on(1), 2);
        seenIs(x, 1, 0, 0, 0, 1, 1);
        due.answered(x, "on(1)", x.on(1), 2);
        due.answered(x, "on(1)", x.on(1), 1);
        seenIs(x, 1, 1, 1, 1, 1, 1);
        due.is("ENDED", x.account(1, 5), 0);
        due.answered(x, "on(1)", x.on(1), 0);
        due.is("ENDED", x.account(1, 5), 1);
        due.answered(x, "back(1)", x.back(1), 2);
        due.is("ENDED", x.account(1, 5), 0);
        seenIs(x, 1, 2, 2, 1, 1, 1);
        due.answered(x, "back(1)", x.back(1), 2);
        seenIs(x, 1, 2, 2, 1, 2, 2);
        due.answered(x, "back(1)", x.back(1), 0);
        due.is("ENDED", x.account(1, 5), 0);
        due.answered(x, "on(1) from the first", x.on(1), 2);
        seenIs(x, 1, 2, 3, 1, 3, 2);
        due.is("PAGES", x.account(1, 6), 9);
        due.refused(x, "seen(1, 5)", x.seen(1, 5), 1);
        due.refused(x, "seen(1, -1)", x.seen(1, -1), 1);
        due.refused(x, "seen(1, 64)", x.seen(1, 64), 1);
        due.refused(x, "seen(4, 0)", x.seen(4, 0), 1);
        x.remove(3);
        due.answered(x, "seen(1, 3) of a ROW that went", x.seen(1, 3), 3);
        x.on(1);
        x.on(1);
        due.is("ENDED", x.account(1, 5), 1);
        x.insert(MISSING, MISSING, 0, 0);
        x.insert(MISSING, Due.word("a"), 0, 0);
        due.answered(x, "on(1) to one that came", x.on(1), 1);
        due.is("seen(1, 6)", x.seen(1, 6), 1);
        due.is("seen(1, 5), behind which it stood", x.seen(1, 5), 0);
        due.is("ENDED", x.account(1, 5), 0);
    }

    private static void seenIs(DriftPages x, int reader, int... times) {
        for (int id = 0; id < times.length; id++) {
            due.answered(x, "seen(" + reader + ", " + id + ")", x.seen(reader, id), times[id]);
        }
    }

    // 29
    private static void readersAccount() {
        DriftPages x = Due.of(PEOPLE);
        due.refused(x, "account(0, 0)", x.account(0, 0), 1);
        x.begin(0, 2, false);
        due.refused(x, "account(0, 7)", x.account(0, 7), 1);
        due.refused(x, "account(0, -1)", x.account(0, -1), 1);
        due.refused(x, "account(4, 0)", x.account(4, 0), 1);
        accountIs(x, 0, 0, 0, 5, 0, 0, 0, 0);
        x.change(4, 1, Due.word("cc"));
        x.on(0);
        accountIs(x, 0, 2, 0, 3, 0, 0, 0, 1);
        x.change(4, 1, Due.word("cc"));
        x.change(0, 1, Due.word("amy"));
        accountIs(x, 0, 2, 0, 3, 0, 1, 0, 1);
        x.change(3, 0, 6);
        x.on(0);
        accountIs(x, 0, 4, 0, 1, 0, 2, 0, 2);
        x.on(0);
        accountIs(x, 0, 4, 1, 0, 0, 1, 0, 3);
        x.remove(4);
        x.remove(1);
        x.insert(1, MISSING, 0, 0);
        accountIs(x, 0, 4, 1, 1, 2, 0, 0, 3);
        x.on(0);
        accountIs(x, 0, 4, 1, 1, 2, 0, 1, 4);
        x.sieve(0, 1, 6);
        due.refused(x, "account(0, 0) when THE SIEVE changed", x.account(0, 0), 1);
        x.begin(0, 1, false);
        accountIs(x, 0, 0, 0, 2, 0, 0, 0, 0);
        x.begin(1, 20, false);
        x.on(1);
        accountIs(x, 1, 2, 0, 0, 0, 0, 0, 1);
        x.change(0, 0, 100);
        accountIs(x, 1, 2, 0, 0, 0, 1, 0, 1);
        x.change(3, 0, 0);
        accountIs(x, 1, 2, 0, 1, 0, 1, 0, 1);
    }

    private static void accountIs(DriftPages x, int reader, int... numbers) {
        for (int what = 0; what < numbers.length; what++) {
            due.answered(x, "account(" + reader + ", " + what + ")", x.account(reader, what), numbers[what]);
        }
    }

    // 27, 28: STABLE ones; 8
    private static void readersOfThePast() {
        DriftPages x = Due.of(PEOPLE);
        x.change(2, 0, 50);
        x.begin(2, 2, true);
        x.on(2);
        x.remove(1);
        x.change(0, 0, -100);
        x.insert(5, Due.word("az"), 0, 0);
        due.answered(x, "on(2)", x.on(2), 2);
        seenIs(x, 2, 1, 1, 0, 1, 1, 0);
        accountIs(x, 2, 4, 0, 2, 1, 0, 0, 2);
        for (int i = 0; i < 37; i++) {
            x.change(0, 0, i);
        }
        due.answered(x, "on(2) of 40 before", x.on(2), 1);
        due.answered(x, "account(2, 4)", x.account(2, 4), 1);
        x.change(0, 0, 0);
        due.refused(x, "on(2)", x.on(2), 8);
        due.refused(x, "back(2)", x.back(2), 8);
        due.answered(x, "account(2, 6)", x.account(2, 6), 3);
        due.answered(x, "seen(2, 2)", x.seen(2, 2), 1);
        due.answered(x, "account(2, 5)", x.account(2, 5), 0);
    }

    // 31
    private static void inserts() {
        DriftPages x = Due.of(PEOPLE);
        due.answered(x, "insert", x.insert(9999, Due.word("zzzzzz"), 1 << 20, MISSING), 5);
        due.answered(x, "insert", x.insert(MISSING, MISSING, 0, 0), 6);
        due.answered(x, "insert of none, a WORD here", x.insert(-9999, Due.word("none"), 0, 0), 7);
        due.is("value(7, 1)", x.value(7, 1), Due.word("none"));
        due.is("about(2)", x.about(2), 8);
        due.is("about(3)", x.about(3), 8);
        due.is("about(4)", x.about(4), 3);
        long[] noWords = {0, 96, 123, -1, 0x6100, 0x610061L, 0x4161L, 0x61616161616161L, 1L << 56, Long.MAX_VALUE,
            MISSING + 'a'};
        for (long word : noWords) {
            due.refused(x, "insert of word " + word, x.insert(1, word, 0, 0), 2);
        }
        due.refused(x, "insert", x.insert(10000, MISSING, 0, 0), 2);
        due.refused(x, "insert", x.insert(-10000, MISSING, 0, 0), 2);
        due.refused(x, "insert", x.insert(MISSING + 1, MISSING, 0, 0), 2);
        due.is("about(4)", x.about(4), 3);
        for (int id = 8; id < 40; id++) {
            due.answered(x, "insert", x.insert(id, Due.word("q"), 0, 0), id);
        }
        due.refused(x, "insert of the 41st", x.insert(1, MISSING, 0, 0), 3);
        due.refused(x, "insert of a wrong 41st", x.insert(10000, MISSING, 0, 0), 2);
        for (int id = 40; id < 64; id++) {
            x.remove(id - 40);
            due.answered(x, "insert", x.insert(id, Due.word("q"), 0, 0), id);
        }
        x.remove(63);
        due.refused(x, "insert of ID 64", x.insert(1, MISSING, 0, 0), 3);
        due.is("about(2)", x.about(2), 39);
        due.is("about(3)", x.about(3), 64);
    }

    // 32
    private static void removes() {
        DriftPages x = Due.of(PEOPLE);
        due.answered(x, "remove(4)", x.remove(4), 4);
        due.refused(x, "remove(4) again", x.remove(4), 1);
        due.refused(x, "remove(5)", x.remove(5), 1);
        due.refused(x, "remove(-1)", x.remove(-1), 1);
        due.refused(x, "remove(64)", x.remove(64), 1);
        due.is("about(4)", x.about(4), 1);
        due.answered(x, "insert: no ID twice", x.insert(1, MISSING, 0, 0), 5);
        for (int id = 0; id < 4; id++) {
            due.answered(x, "remove", x.remove(id), 4 - id);
        }
        due.answered(x, "remove(5)", x.remove(5), 0);
        due.refused(x, "ranked(0)", x.ranked(0), 1);
    }

    // 33
    private static void changes() {
        DriftPages x = Due.of(PEOPLE);
        due.answered(x, "change(4, 0, 5)", x.change(4, 0, 5), 2);
        due.answered(x, "change(4, 1, zz)", x.change(4, 1, Due.word("zz")), 1);
        due.answered(x, "change(4, 0, MISSING)", x.change(4, 0, MISSING), 3);
        due.answered(x, "change to the same", x.change(4, 0, MISSING), 3);
        due.is("about(4)", x.about(4), 4);
        due.refused(x, "change(5, 0, 10000)", x.change(5, 0, 10000), 1);
        due.refused(x, "change(0, 2, 10000)", x.change(0, 2, 10000), 1);
        due.refused(x, "change(0, -1, 1)", x.change(0, -1, 1), 1);
        due.refused(x, "change(0, 0, 10000)", x.change(0, 0, 10000), 2);
        due.refused(x, "change(0, 1, 5)", x.change(0, 1, 5), 2);
        due.is("about(4)", x.about(4), 4);
        due.is("value(0, 0)", x.value(0, 0), 5);
    }

    // 34
    private static void turns() {
        DriftPages x = Due.of(PEOPLE);
        x.begin(0, 1, false);
        int[][] wrongOnes = {{-1, -1, -1, -1}, {-1, 0, -1, -1}, {0, -1, 4, -1}, {0, -1, -1, 4}, {8, -1, -1, -1},
            {-2, -1, -1, -1}, {0, -4, -1, -1}, {0, 3, -1, -1}, {4, 0, 5, -1}, {Integer.MAX_VALUE, -1, -1, -1},
            {Integer.MIN_VALUE, -1, -1, -1}};
        for (int[] c : wrongOnes) {
            due.refused(x, "turn(" + java.util.Arrays.toString(c) + ")", x.turn(c[0], c[1], c[2], c[3]), 2);
        }
        due.is("SCHEMA", x.about(5), 0);
        due.is("READERS", x.size(3), 1);
        orderIs(x, 4, 3, 1, 0, 2);
        due.answered(x, "turn(5, 2, -1, -1)", x.turn(5, 2, -1, -1), 2);
        due.is("READERS", x.size(3), 0);
        due.refused(x, "on(0)", x.on(0), 1);
        orderIs(x, 3, 0, 4, 1, 2);
        int[] told = {x.orderAt(0, 0), x.orderAt(0, 1), x.orderAt(0, 2), x.orderAt(1, 0), x.orderAt(1, 1),
            x.orderAt(1, 2)};
        int[] asked = {1, 0, 1, 0, 1, 0};
        for (int i = 0; i < 6; i++) {
            due.is("orderAt", told[i], asked[i]);
        }
        due.is("VERSION", x.about(4), 0);
        due.answered(x, "turn to the same", x.turn(5, 2, -1, -1), 2);
        due.is("SCHEMA", x.about(5), 2);
        x.page(3, false);
        due.is("SCHEMA in a TOKEN", x.tokenByte(0, 1), 2);
        DriftPages w = Due.of("table a word,b word,c word,d number;order a up;row x y z 1;row x y z 2");
        due.answered(w, "turn of four", w.turn(0, 5, 10, 15), 4);
        orderIs(w, 1, 0);
    }

    // 35 to 38
    private static void sieves() {
        DriftPages x = Due.of(PEOPLE);
        x.begin(0, 1, false);
        due.refused(x, "sieve(2, 9, 0)", x.sieve(2, 9, 0), 1);
        due.refused(x, "sieve(-1, 0, 0)", x.sieve(-1, 0, 0), 1);
        due.refused(x, "sieve(0, 5, 0)", x.sieve(0, 5, 0), 2);
        due.refused(x, "sieve(0, -1, 0)", x.sieve(0, -1, 0), 2);
        for (int how = 0; how < 3; how++) {
            due.refused(x, "sieve(0, how, MISSING)", x.sieve(0, how, MISSING), 2);
            due.refused(x, "sieve(0, how, 10000)", x.sieve(0, how, 10000), 2);
            due.refused(x, "sieve(1, how, 7)", x.sieve(1, how, 7), 2);
        }
        due.is("READERS", x.size(3), 1);
        due.is("SCHEMA", x.about(5), 0);
        due.refused(x, "condition(0, 0)", x.condition(0, 0), 1);
        passIs(x, 1, 1, 1, 1, 1);
        due.answered(x, "sieve(0, 0, 5)", x.sieve(0, 0, 5), 1);
        due.is("READERS", x.size(3), 0);
        due.is("SCHEMA", x.about(5), 1);
        passIs(x, 1, 1, 0, 1, 0);
        due.answered(x, "sieve(1, 4, 99999)", x.sieve(1, 4, 99999), 2);
        passIs(x, 1, 1, 0, 0, 0);
        due.refused(x, "a third", x.sieve(0, 3, 0), 3);
        due.refused(x, "a wrong third", x.sieve(0, 0, MISSING), 2);
        int[] told = {x.condition(0, 0), x.condition(0, 1), x.condition(1, 0), x.condition(1, 1)};
        int[] asked = {0, 0, 1, 4};
        for (int i = 0; i < 4; i++) {
            due.is("condition", told[i], asked[i]);
        }
        due.refused(x, "condition(2, 0)", x.condition(2, 0), 1);
        due.refused(x, "condition(-1, 0)", x.condition(-1, 0), 1);
        due.refused(x, "condition(0, 2)", x.condition(0, 2), 1);
        due.refused(x, "condition(0, -1)", x.condition(0, -1), 1);
        x.page(5, false);
        due.pageIs(x, "1 0");
        due.is("beyond(1) of those that PASS", x.page(1, false) == 1 ? x.beyond(1) : -9, 1);
        x.begin(1, 5, false);
        due.answered(x, "clear()", x.clear(), 2);
        due.is("READERS", x.size(3), 0);
        due.is("SCHEMA", x.about(5), 3);
        due.refused(x, "condition(0, 0)", x.condition(0, 0), 1);
        due.answered(x, "clear() of none", x.clear(), 0);
        one(x, 0, 1, 5, 0, 0, 0, 0, 1);
        one(x, 0, 2, -2, 1, 1, 0, 1, 0);
        one(x, 0, 3, 5, 0, 0, 1, 0, 0);
        one(x, 0, 4, 5, 1, 1, 0, 1, 1);
        one(x, 1, 0, Due.word("bob"), 0, 1, 0, 0, 0);
        one(x, 1, 1, Due.word("bb"), 1, 0, 0, 0, 0);
        one(x, 1, 1, Due.word("bba"), 1, 0, 0, 0, 1);
        one(x, 1, 2, Due.word("b"), 0, 1, 1, 0, 1);
        one(x, 1, 2, Due.word("azzzzz"), 0, 1, 1, 0, 1);
        one(x, 1, 3, MISSING, 0, 0, 0, 1, 0);
        due.refused(x, "passes(5)", x.passes(5), 1);
        due.refused(x, "passes(-1)", x.passes(-1), 1);
    }

    private static void one(DriftPages x, int column, int how, long value, int... passing) {
        x.clear();
        due.answered(x, "sieve", x.sieve(column, how, value), 1);
        passIs(x, passing);
    }

    private static void passIs(DriftPages x, int... passing) {
        for (int id = 0; id < passing.length; id++) {
            due.answered(x, "passes(" + id + ")", x.passes(id), passing[id]);
        }
    }

    // 16, 27, 35: who PASSES, as they were then
    private static void sieveOverVersions() {
        DriftPages x = Due.of(PEOPLE);
        x.sieve(0, 0, 5);
        x.page(1, true);
        x.begin(0, 1, true);
        x.begin(1, 9, false);
        int[] after = Due.token(x, 1);
        x.change(1, 0, 6);
        x.change(2, 0, 5);
        due.is("next as it was", Due.next(x, after), 1);
        due.pageIs(x, "1");
        due.is("beyond(1)", x.beyond(1), 1);
        due.is("on(0)", x.on(0), 1);
        due.is("on(0)", x.on(0), 1);
        due.is("seen(0, 1), which PASSED then", x.seen(0, 1), 1);
        due.is("account(0, 2)", x.account(0, 2), 2);
        due.is("on(1)", x.on(1), 3);
        due.is("seen(1, 2), which PASSES now", x.seen(1, 2), 1);
        due.is("seen(1, 1), which doesn't", x.seen(1, 1), 0);
    }

    // 39
    private static void lackingOnes() {
        DriftPages x = Due.of(PEOPLE);
        x.begin(9, 9, false);
        due.is("lacking(0)", x.lacking(0), 2);
        due.is("lacking(1)", x.lacking(1), 3);
        due.throwsNone(x, 2);
        due.throwsNone(x, -1);
        due.throwsNone(x, Integer.MIN_VALUE);
        due.is("trouble() is left alone", x.trouble(), 1);
        x.remove(2);
        x.insert(MISSING, MISSING, 0, 0);
        x.change(0, 1, MISSING);
        due.is("lacking(0)", x.lacking(0), 0);
        due.is("lacking(1)", x.lacking(1), 3);
        due.is("lacking(2)", x.lacking(2), 5);
        due.throwsNone(x, 3);
    }

    // 40
    private static void sizes() {
        DriftPages x = Due.of(PEOPLE);
        x.page(3, false);
        x.begin(2, 1, false);
        x.feed(0, 0, 0, 0, 0);
        int[] due1 = {20, 3, 0, 1};
        for (int what = 0; what < 4; what++) {
            due.is("size(" + what + ")", x.size(what), due1[what]);
        }
        due.is("size(4)", x.size(4), -1);
        due.is("size(-1)", x.size(-1), -1);
        for (int i = 1; i <= 45; i++) {
            x.change(0, 0, i);
            due.is("size(2)", x.size(2), Math.min(i, 40));
        }
    }

    // 5, 41: what the latest call that may be refused told
    private static void troubles() {
        DriftPages x = Due.of(PEOPLE);
        x.kind(9);
        x.feed(0, 0, 0, 0, 0);
        x.size(9);
        x.fault();
        x.where();
        due.is("trouble()", x.trouble(), 1);
        due.throwsNone(x, 9);
        due.is("trouble()", x.trouble(), 1);
        x.table(20);
        due.is("trouble()", x.trouble(), 4);
        due.is("where()", x.where(), 0);
        x.feed(0, 0, 0, 0, 0);
        due.is("where() behind feed", x.where(), 0);
        x.checks(9);
        due.is("trouble() behind checks, not refused", x.trouble(), 0);
        due.is("where() behind checks", x.where(), -1);
        due.is("fault()", x.fault(), 1);
    }
}
