/** Promises 34 to 36. */
public final class TextTest {
    private static final Due DUE = new Due();
    private static final String TWELVE = "1 -2 3 1 1 1 1 1 1 1 1 -1";

    public static void main(String[] args) {
        feed();
        wipe();
        items();
        faults();
        faultsByLimits();
        faultsChangeNothing();
        DUE.end();
    }

    private static void feed() {
        KnotFair x = new KnotFair();
        DUE.is("feed(0, 0)", x.feed(0, 0), Due.BEYOND);
        DUE.is("feed(0, 5)", x.feed(0, 5), Due.BEYOND);
        DUE.is("feed(0, -1)", x.feed(0, -1), Due.BEYOND);
        DUE.is("highest first", x.feed(0x74696520, 4), 4);
        DUE.is("the lowest alone", x.feed(0x7f7f7f31, 1), 5);
        DUE.is("told", x.text(), 1);
        DUE.holds("the row", Due.hasRow(x, 0, 1));
        for (int k = 1; k <= 59; k++) {
            x.feed(0x2020, 2);
        }
        DUE.is("118", x.count(3), 118);
        DUE.is("4 more", x.feed(0, 4), Due.FULL);
        DUE.is("3 more", x.feed(0, 3), Due.FULL);
        DUE.is("2 more", x.feed(0x2020, 2), 120);
        DUE.is("a 121st", x.feed(0, 1), Due.FULL);
        DUE.is("5 at once", x.feed(0, 5), Due.BEYOND);
        DUE.is("120 blanks", x.text(), -121);
        DUE.is("empty then", x.count(3), 0);
        x.feed(0x20ff, 2);
        DUE.is("a byte above 127", x.text(), -2);
    }

    private static void wipe() {
        KnotFair x = new KnotFair();
        DUE.is("wipe nothing", x.wipe(), 0);
        x.feed(0x74696520, 4);
        x.feed(0x7469, 3);
        DUE.is("wipe", x.wipe(), 7);
        DUE.is("wiped", x.count(3), 0);
        DUE.is("nothing to tell", x.text(), -1);
    }

    private static void items() {
        KnotFair x = new KnotFair();
        DUE.is("all kinds", Due.told(x, "ropes 3;tie;turned1;back-1;twice 1 2;undone - 1 - 2; mirrored 02 -001 "), 7);
        DUE.is("ropes", x.count(1), 3);
        int[][] rows = {{}, {1}, {-1}, {1, 2}, {-1, -2}, {2, -1}};
        for (int k = 0; k < 6; k++) {
            DUE.is("kind", x.of(k, 0), k);
            DUE.holds("row " + k, Due.hasRow(x, k, rows[k]));
        }
        DUE.is("more", Due.told(x, " more 0 2;more 1-2 ; more 5 -   1"), 3);
        DUE.holds("more of 0", Due.hasRow(x, 0, 2));
        DUE.holds("more of 1", Due.hasRow(x, 1, 1, -2));
        DUE.holds("more of 5", Due.hasRow(x, 5, 2, -1, -1));
        DUE.is("twelve, and more of one told just now", Due.told(x, "tie 1 1 1 1 1 1 1 1 1 1 1; more 6 -2; tie"), 3);
        DUE.is("twelve", x.of(6, 1), 12);
        DUE.is("eight ties", x.count(0), 8);
        DUE.is("ropes and ropes", Due.told(new KnotFair(), "ropes 2;ropes 4; tie 3"), 3);
        DUE.is("no finding", x.status(-1), 0);
    }

    private static void fault(String text, int place) {
        KnotFair x = new KnotFair();
        DUE.is("fault of \"" + text + "\"", Due.told(x, text), -1 - place);
        DUE.is("the tape is empty", x.count(3), 0);
        DUE.is("no ties", x.count(0), 0);
        DUE.is("four ropes", x.count(1), 4);
        DUE.is("no finding", x.status(-1), 0);
    }

    private static void faults() {
        fault("", 0);
        fault("  ", 2);
        fault("tie;", 4);
        fault("tie; ", 5);
        fault(";tie", 0);
        fault(" ties", 1);
        fault("ti", 0);
        fault("Tie", 0);
        fault("xie", 0);
        fault("tiez", 0);
        fault("tie\0", 3);
        fault("tie 19", 4);
        fault("tie tie", 4);
        fault("tieback", 0);
        fault("tie 1 4", 6);
        fault("tie 0", 4);
        fault("tie 1000", 4);
        fault("tie 4294967297", 4);
        fault("tie -", 5);
        fault("tie - ", 6);
        fault("tie --1", 5);
        fault("tie -;", 5);
        fault("tie -4", 5);
        fault("tie 1,2", 5);
        fault("tie\t1", 3);
        fault("tie 12", 4);
        fault("1", 0);
        fault("-1", 0);
        fault("more", 4);
        fault("more 0 1", 5);
        fault("tie;more 1 1", 9);
        fault("tie;more -0 1", 9);
        fault("tie;more 0", 10);
        fault("tie;more 0;", 10);
        fault("tie;more 0 4", 11);
        fault("tie;more 0 1 1", 13);
        fault("tie;more 0 - -1", 13);
        fault("tie;more 0 tie", 11);
        fault("ropes", 5);
        fault("ropes 1", 6);
        fault("ropes 5", 6);
        fault("ropes -3", 6);
        fault("ropes 3 3", 8);
        fault("ropes 3;tie 3", 12);
        fault("ropes 3;tie -3", 13);
        fault("tie;ropes 3", 4);
        fault("ropes 3;tie 1;ropes", 14);
    }

    private static void faultsByLimits() {
        fault("tie " + TWELVE + " 1", 30);
        fault("tie " + TWELVE + " -1", 30);
        fault("tie " + TWELVE + " - ", 30);
        fault("tie " + TWELVE + ";more 0 1", 37);
        fault("tie " + TWELVE + ";more 0 -1", 37);
        fault("tie " + TWELVE + ";more 0 ", 37);
        fault("tie;tie;tie;tie;tie;tie;tie;tie;back 1", 32);
        fault("tie;tie;tie;tie;tie;tie;tie;tie;bac", 32);
        KnotFair x = new KnotFair();
        DUE.is("twelve are fine", Due.told(x, "tie " + TWELVE), 1);
        DUE.holds("the twelve", Due.hasRow(x, 0, 1, -2, 3, 1, 1, 1, 1, 1, 1, 1, 1, -1));
        DUE.is("a tie of before is full", Due.told(x, "back; more 0 1"), -14);
        DUE.is("the last of eight", Due.told(x, "tie;tie;tie;tie;tie;tie;twice 3"), 7);
        DUE.is("a ninth", Due.told(x, "more 1 1;tie"), -10);
        DUE.is("not more", x.of(1, 1), 0);
    }

    private static void faultsChangeNothing() {
        KnotFair x = Due.fair(3, 1, 1, -2);
        x.seed(5);
        DUE.is("fault", Due.told(x, "more 0 1; tie 1; back 2 2; more 0 3"), -35);
        DUE.holds("its row", Due.hasRow(x, 0, 1, -2));
        DUE.is("ties", x.count(0), 1);
        DUE.is("ropes", x.count(1), 3);
        DUE.is("z", x.count(4), 5);
        DUE.is("and then without", Due.told(x, "more 0 1; tie 1; back 2 2; more 0 2"), 4);
        DUE.holds("its row then", Due.hasRow(x, 0, 1, -2, 1, 2));
        DUE.is("z stays", x.count(4), 5);
    }
}
