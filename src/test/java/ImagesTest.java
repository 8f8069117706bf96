/** Promises 43 to 47. */
public final class ImagesTest {
    private static final Due DUE = new Due();

    public static void main(String[] args) {
        image();
        undoLeavesTheRest();
        tear();
        count();
        status();
        findingsChangeNothing();
        DUE.end();
    }

    private static void image() {
        KnotFair x = new KnotFair();
        DUE.is("undo of nothing", x.undo(), Due.NONE);
        x.ropes(3);
        Due.tie(x, 1, 1, -2);
        Due.tie(x, 3, 2);
        x.seed(77);
        DUE.is("image", x.image(), 1);
        x.add(0, 1);
        x.turn(1, 0);
        x.tie(5);
        x.lay(2, 4);
        DUE.is("undo", x.undo(), 2);
        DUE.is("z", x.count(4), 77);
        DUE.is("ropes", x.count(1), 3);
        DUE.is("kind", x.of(1, 0), 3);
        DUE.holds("row 0", Due.hasRow(x, 0, 1, -2));
        DUE.holds("row 1", Due.hasRow(x, 1, 2));
        x.drop(0);
        DUE.is("it stays", x.undo(), 2);
        DUE.holds("row 0 again", Due.hasRow(x, 0, 1, -2));
        x.drop(1);
        DUE.is("a later image", x.image(), 1);
        x.add(1, 1);
        x.add(1, 1);
        DUE.is("undo to the later", x.undo(), 2);
        DUE.is("row 1 of the later", x.of(1, 1), 0);
        DUE.is("a new tie behind undo", x.tie(4), 2);
        DUE.is("it is empty", x.of(2, 1), 0);
        KnotFair y = new KnotFair();
        y.image();
        y.ropes(2);
        Due.tie(y, 0, 1);
        DUE.is("undo to no ties", y.undo(), 0);
        DUE.is("four ropes", y.count(1), 4);
        DUE.is("ropes may change again", y.ropes(3), 4);
        y.image();
        Due.told(y, "tie 1; tie 2");
        DUE.is("undo of a text", y.undo(), 0);
        DUE.is("three ropes", y.count(1), 3);
    }

    private static void undoLeavesTheRest() {
        KnotFair x = new KnotFair();
        x.image();
        x.sheet(0, 8, 3);
        x.write(0, 1, 5);
        x.feed(0x746965, 3);
        x.tie(9);
        x.undo();
        DUE.is("the sheet stays", x.write(0, 1, 0), 5);
        DUE.is("the tape stays", x.count(3), 3);
        DUE.is("findings stay", x.status(-1), 1);
    }

    private static void tear() {
        KnotFair x = new KnotFair();
        DUE.is("tear nothing", x.tear(), 0);
        x.image();
        DUE.is("tear", x.tear(), 1);
        DUE.is("tear again", x.tear(), 0);
        DUE.is("undo of nothing", x.undo(), Due.NONE);
        x.image();
        DUE.is("undo of a new one", x.undo(), 0);
    }

    private static void count() {
        KnotFair x = Due.fair(3, 3, 1, 1, 2);
        Due.tie(x, 0, 1);
        x.feed(0, 2);
        x.seed(Due.FULL);
        DUE.is("ties", x.count(0), 2);
        DUE.is("ropes", x.count(1), 3);
        DUE.is("crossings", x.count(2), 4);
        DUE.is("bytes", x.count(3), 2);
        DUE.is("z", x.count(4), Due.FULL);
        DUE.is("no finding", x.status(-1), 0);
        DUE.is("count(5)", x.count(5), Due.BEYOND);
        DUE.is("count(-1)", x.count(-1), Due.BEYOND);
    }

    private static void status() {
        KnotFair x = Due.fair(4, 0, 1);
        x.tie(9);
        x.as(0, 5);
        x.as(0, 4);
        x.lays(0, 1);
        x.ropes(3);
        x.read(0);
        x.write(0, 0, 0);
        x.sheet(0, 8, -1);
        x.lay(0, 12);
        x.add(0, 1);
        x.image();
        x.undo();
        x.tear();
        int[] due = {1, 1, 2, 1, 1, 2, 1};
        for (int k = 0; k < 7; k++) {
            DUE.is("status(" + k + ")", x.status(k), due[k]);
        }
        DUE.is("all", x.status(-1), 9);
        DUE.is("status(7)", x.status(7), Due.BEYOND);
        DUE.is("counted from then on", x.status(0), 2);
        DUE.is("status(-2)", x.status(-2), Due.BEYOND);
        DUE.is("all then", x.status(-1), 11);
    }

    private static void findingsChangeNothing() {
        KnotFair x = Due.fair(4, 2, 1, 2, -3);
        x.sheet(0, 8, 2);
        x.feed(0x74, 1);
        x.image();
        x.flip(0, 3);
        x.like(0, 1);
        x.turn(0, 6);
        x.third(0, 0);
        x.slide(0, 0);
        x.lay(0, 13);
        x.feed(0, 5);
        x.sheet(0, 8, 41);
        x.sheet(0, 0, -1);
        x.write(0, 2, 1);
        x.load(1, 0);
        x.show(0, 1);
        DUE.is("kind", x.of(0, 0), 2);
        DUE.holds("row", Due.hasRow(x, 0, 1, 2, -3));
        DUE.is("bytes", x.count(3), 1);
        DUE.is("z", x.count(4), 1);
        DUE.is("sheet", x.write(0, 1, 0), 0);
        DUE.is("all", x.status(-1), 12);
    }
}
