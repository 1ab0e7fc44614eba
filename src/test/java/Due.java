import java.util.NoSuchElementException;

/** Answers that are due, and the ways in which tests speak to the class. */
final class Due {
    static final long MISSING = Long.MIN_VALUE;
    private int wrong = 0;
    private int asked = 0;

    void is(String call, long got, long due) {
        asked++;
        if (got != due) {
            wrong++;
            System.out.println(call + " answered " + got + ", due is " + due);
        }
    }

    /** NONE, by the TROUBLE that is due. */
    void refused(DriftPages x, String call, long got, int trouble) {
        is(call, got, DriftPages.NONE);
        is(call + ": trouble()", x.trouble(), trouble);
    }

    void refusedValue(DriftPages x, String call, long got, int trouble) {
        is(call, got, MISSING);
        is(call + ": trouble()", x.trouble(), trouble);
    }

    void answered(DriftPages x, String call, long got, long due) {
        is(call, got, due);
        is(call + ": trouble()", x.trouble(), 0);
    }

    void throwsNone(DriftPages x, int i) {
        int thrown = 0;
        try {
            x.lacking(i);
        } catch (NoSuchElementException e) {
            thrown = 1;
        }
        is("lacking(" + i + ") throws NoSuchElementException", thrown, 1);
    }

    void end(String name) {
        System.out.println(name + ": " + asked + " answers, " + wrong + " not as due");
        if (wrong != 0) {
            System.exit(1);
        }
    }

    static void feed(DriftPages x, int... bytes) {
        for (int i = 0; i < bytes.length; i += 20) {
            int[] f = new int[5];
            for (int k = 0; k < 20; k++) {
                f[k / 4] = f[k / 4] << 8 | (i + k < bytes.length ? bytes[i + k] & 255 : ' ');
            }
            x.feed(f[0], f[1], f[2], f[3], f[4]);
        }
    }

    static void feed(DriftPages x, String text) {
        feed(x, text.chars().toArray());
    }

    static int table(DriftPages x, String text) {
        feed(x, text);
        return x.table(text.length());
    }

    static DriftPages of(String text) {
        DriftPages x = new DriftPages();
        if (table(x, text) < 0) {
            System.out.println("a test's own table is refused: " + text);
            System.exit(1);
        }
        return x;
    }

    static int[] token(DriftPages x, int which) {
        int[] bytes = new int[Math.max(0, x.tokenSize(which))];
        for (int i = 0; i < bytes.length; i++) {
            bytes[i] = x.tokenByte(which, i);
        }
        return bytes;
    }

    /** A TOKEN of these bytes and the CHECK that they ask for. */
    static int[] checked(int... bytes) {
        int[] token = java.util.Arrays.copyOf(bytes, bytes.length + 1);
        int check = 7;
        for (int b : bytes) {
            check = (31 * check + b) % 251;
        }
        token[bytes.length] = check;
        return token;
    }

    static int next(DriftPages x, int... token) {
        feed(x, token);
        return x.next(token.length);
    }

    static int previous(DriftPages x, int... token) {
        feed(x, token);
        return x.previous(token.length);
    }

    static String ids(DriftPages x) {
        StringBuilder b = new StringBuilder();
        for (int i = 0; i < x.size(1); i++) {
            b.append(i == 0 ? "" : " ").append(x.at(i));
        }
        return b.toString();
    }

    void pageIs(DriftPages x, String ids) {
        asked++;
        if (!ids(x).equals(ids)) {
            wrong++;
            System.out.println("the page has " + ids(x) + ", due is " + ids);
        }
    }

    static long word(String letters) {
        long n = 0;
        for (char c : letters.toCharArray()) {
            n = n << 8 | c;
        }
        return n;
    }
}
