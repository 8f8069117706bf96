/** Counts the answers that are not as due, and tells each. */
final class Due {
    static final int BEYOND = -1000000001;
    static final int FULL = -1000000002;
    static final int KIND = -1000000003;
    static final int NONE = -1000000004;
    static final int STATE = -1000000005;
    static final int MISSING = -1000000006;
    static final int SIZE = -1000000007;

    private int asked = 0;
    private int wrong = 0;

    void is(String call, long got, long want) {
        asked++;
        if (got != want) {
            wrong++;
            if (wrong <= 40) {
                System.out.println(call + " answered " + got + ", due is " + want);
            }
        }
    }

    void holds(String what, boolean so) {
        is(what, so ? 1 : 0, 1);
    }

    void end() {
        System.out.println(asked + " answers asked, " + wrong + " not as due");
        if (wrong != 0 || asked == 0) {
            System.exit(1);
        }
    }

    /** A fair with one tie of a kind and a row. */
    static KnotFair fair(int ropes, int kind, int... row) {
        KnotFair x = new KnotFair();
        x.ropes(ropes);
        tie(x, kind, row);
        return x;
    }

    static int tie(KnotFair x, int kind, int... row) {
        int t = x.tie(kind);
        for (int crossing : row) {
            x.add(t, crossing);
        }
        return t;
    }

    /** Whether the row of a tie is this one (told by what it lays as plain). */
    static boolean hasRow(KnotFair x, int tie, int... row) {
        int kind = x.turn(tie, 0);
        boolean so = x.of(tie, 1) == row.length;
        for (int i = 0; so && i < row.length; i++) {
            so = x.lays(tie, i) == row[i];
        }
        x.turn(tie, kind);
        return so;
    }

    static boolean lays(KnotFair x, int tie, int... row) {
        boolean so = x.of(tie, 2) == row.length;
        for (int i = 0; so && i < row.length; i++) {
            so = x.lays(tie, i) == row[i];
        }
        return so && x.lays(tie, row.length) == NONE;
    }

    static boolean leaves(KnotFair x, int tie, int... row) {
        boolean so = x.left(tie) == row.length;
        for (int i = 0; so && i < row.length; i++) {
            so = x.rest(tie, i) == row[i];
        }
        return so && x.rest(tie, row.length) == NONE;
    }

    static void feed(KnotFair x, String text) {
        for (int i = 0; i < text.length(); i++) {
            x.feed(text.charAt(i), 1);
        }
    }

    static int told(KnotFair x, String text) {
        feed(x, text);
        return x.text();
    }
}
