/** Texts of tables, each with its fault and the place of it (promises 2 to 5). */
public final class FaultsTest {
    private static final Due due = new Due();
    private static final String HEAD = "table a number,b word;order a up;";

    public static void main(String[] args) {
        good();
        form();
        others();
        calls();
        due.end("FaultsTest");
    }

    private static void fault(String text, int number, int place) {
        DriftPages x = new DriftPages();
        int n = Due.table(x, text);
        due.refused(x, "table of <" + text + ">", n, 4);
        due.is("fault of <" + text + ">", x.fault(), number);
        due.is("where of <" + text + ">", x.where(), place);
        due.is("size(0) of <" + text + ">", x.size(0), 0);
        due.is("about(0) of <" + text + ">", x.about(0), -1);
    }

    private static void rows(String text, int rows) {
        DriftPages x = new DriftPages();
        due.answered(x, "table of <" + text + ">", Due.table(x, text), rows);
        due.is("fault of <" + text + ">", x.fault(), 0);
        due.is("where of <" + text + ">", x.where(), -1);
    }

    private static void good() {
        rows("table a number;order a up", 0);
        rows("  table   a number  ;  order a down first  ", 0);
        rows("table a number;order a up;row 5;row-5;row - 5;row none;row 0000", 5);
        rows("table table word;order table up;row row;row abcdef", 2);
        rows("table first word,up number;order first up first,up down;row order 9999", 1);
        rows("table a word,b word,c word,d word;order d up,c down,b up first,a down first;row a b none d", 1);
        rows("table none word;order none down;row none", 1);
        rows(HEAD + "row1a;row 2b", 2);
        rows(HEAD + repeat("row 1 a", 30), 30);
    }

    private static void form() {
        fault("", 1, 0);
        fault("   ", 1, 3);
        fault(";", 1, 0);
        fault("tables a number", 1, 0);
        fault("Table a number", 1, 0);
        fault("table", 1, 5);
        fault("table  ", 1, 7);
        fault("table 5 number", 1, 6);
        fault("table a", 1, 7);
        fault("table a numbr", 1, 8);
        fault("table a number b word", 1, 15);
        fault("table a number,", 1, 15);
        fault("table abcdefg number", 1, 6);
        fault("table a number,b word,c word,d word,e word", 1, 35);
        fault("table a number;", 1, 15);
        fault("table a number;order", 1, 20);
        fault("table a number;order a", 1, 22);
        fault("table a number;order a side", 1, 23);
        fault("table a number;order a up last", 1, 26);
        fault("table a number;order a up first first", 1, 32);
        fault("table a number;order a up,", 1, 26);
        fault("table a number;order 1 up", 1, 21);
        fault("table a number;order a up;", 1, 26);
        fault("table a number;order a up;;", 1, 26);
        fault("table a number;order a up;rows 1", 1, 26);
        fault("table a number;order a up;row", 1, 29);
        fault("table a number;order a up;row x", 1, 30);
        fault("table a number;order a up;row 12345", 1, 30);
        fault("table a number;order a up;row - x", 1, 32);
        fault("table a number;order a up;row -none", 1, 31);
        fault("table a number;order a up;row --1", 1, 31);
        fault("table a number;order a up;row 1 2", 1, 32);
        fault("table a number;order a up;row 1,", 1, 31);
        fault("table a number;order a up;row 1\t", 1, 31);
        fault("table a number;order a up;row 1" + (char) 225, 1, 31);
        fault("table a word;order a up;row 5", 1, 28);
        fault("table a word;order a up;row -", 1, 28);
        fault("table a word;order a up;row abcdefg", 1, 28);
        fault(HEAD + "row 1;row 2 b", 1, 38);
    }

    private static void others() {
        fault("table a number;order c up", 2, 21);
        fault("table a number;order a up,c up", 2, 26);
        fault("table a number,a word", 3, 15);
        fault("table a number,b word,a", 3, 22);
        fault("table a number;table b word", 3, 15);
        fault("table a number;order a up,a down", 3, 26);
        fault("table a word,b word,c word,d word;order a up,b up,c up,d up,e up", 2, 60);
        fault("table a word,b word,c word,d word;order a up,b up,c up,d up,b up", 3, 60);
        fault("table a number;order a up;order a down", 3, 26);
        fault("table a number;order a up;row 1;table", 3, 32);
        fault(HEAD + repeat("row 1 a", 31), 4, HEAD.length() + 30 * 8);
        fault("order a up;table a number", 5, 0);
        fault(" row 1", 5, 1);
        fault("table a number;row 1;order a up", 5, 15);
        fault("table a number", 5, 14);
        fault("table a number  ", 5, 16);
    }

    private static void calls() {
        DriftPages x = new DriftPages();
        due.is("fault() at first", x.fault(), 0);
        due.is("where() at first", x.where(), -1);
        for (int i = 1; i <= 45; i++) {
            due.is("feed", x.feed(0x20202020, 0x20202020, 0x20202020, 0x20202020, 0x20202020), 20 * i);
        }
        due.is("feed beyond 900", x.feed(0, 0, 0, 0, 0), -1);
        due.is("size(0)", x.size(0), 900);
        due.is("trouble() is not fed", x.trouble(), 0);
        due.refused(x, "table(901)", x.table(901), 2);
        due.refused(x, "table(-1)", x.table(-1), 2);
        due.is("size(0) behind 2", x.size(0), 900);
        due.is("fault() behind 2", x.fault(), 0);
        due.refused(x, "table(900)", x.table(900), 4);
        due.is("where()", x.where(), 900);
        due.refused(x, "table(1)", x.table(1), 2);
        due.is("fault() stays by 2", x.fault(), 1);
        due.is("where() by 2", x.where(), -1);
        Due.table(x, "table a number;order a up;row 1");
        x.page(2, false);
        x.begin(1, 2, false);
        x.insert(2, 0, 0, 0);
        x.sieve(0, 4, 0);
        x.begin(1, 2, false);
        due.refused(x, "table(0)", x.table(0), 4);
        due.is("the TABLE stays", x.about(2), 2);
        due.is("where() behind about", x.where(), -1);
        due.is("fault() behind about", x.fault(), 1);
        due.is("the PAGE stays", x.size(1), 1);
        due.is("the READERS stay", x.size(3), 1);
        Due.table(x, "table a number;order a up;row 1;row none");
        due.is("VERSION", x.about(4), 0);
        due.is("SCHEMA", x.about(5), 0);
        due.is("ACTS", x.size(2), 0);
        due.is("PAGE", x.size(1), 0);
        due.refused(x, "tokenSize(0)", x.tokenSize(0), 1);
        due.is("READERS", x.size(3), 0);
        due.refused(x, "no CONDITION", x.condition(0, 0), 1);
        due.is("IDS", x.about(3), 2);
        due.is("fault()", x.fault(), 0);
    }

    private static String repeat(String line, int times) {
        return (line + ";").repeat(times - 1) + line;
    }
}
