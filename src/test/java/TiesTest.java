/** Promises 1 to 11. */
public final class TiesTest {
    private static final Due DUE = new Due();

    public static void main(String[] args) {
        newObject();
        ropes();
        tie();
        add();
        drop();
        flip();
        of();
        turn();
        as();
        lays();
        like();
        DUE.end();
    }

    private static void newObject() {
        KnotFair x = new KnotFair();
        DUE.is("new: ties", x.count(0), 0);
        DUE.is("new: ropes", x.count(1), 4);
        DUE.is("new: crossings", x.count(2), 0);
        DUE.is("new: bytes", x.count(3), 0);
        DUE.is("new: z", x.count(4), 1);
        DUE.is("new: findings", x.status(-1), 0);
        DUE.is("new: undo", x.undo(), Due.NONE);
        DUE.is("new: tear", x.tear(), 0);
        for (int s = 0; s < 4; s++) {
            DUE.is("new: sheet is missing", x.write(s, 0, 1), Due.MISSING);
        }
    }

    private static void ropes() {
        KnotFair x = new KnotFair();
        DUE.is("ropes(2)", x.ropes(2), 4);
        DUE.is("ropes(3)", x.ropes(3), 2);
        DUE.is("ropes(3) again", x.ropes(3), 3);
        DUE.is("ropes(1)", x.ropes(1), Due.BEYOND);
        DUE.is("ropes(5)", x.ropes(5), Due.BEYOND);
        DUE.is("ropes(MIN)", x.ropes(Integer.MIN_VALUE), Due.BEYOND);
        DUE.is("ropes stay", x.count(1), 3);
        x.tie(0);
        DUE.is("ropes(4) with a tie", x.ropes(4), Due.STATE);
        DUE.is("ropes(5) with a tie", x.ropes(5), Due.BEYOND);
        DUE.is("ropes stay with a tie", x.count(1), 3);
    }

    private static void tie() {
        KnotFair x = new KnotFair();
        DUE.is("tie(-1)", x.tie(-1), Due.BEYOND);
        DUE.is("tie(6)", x.tie(6), Due.BEYOND);
        for (int k = 0; k < 8; k++) {
            DUE.is("tie", x.tie(k % 6), k);
            DUE.is("its kind", x.of(k, 0), k % 6);
            DUE.is("its row", x.of(k, 1), 0);
        }
        DUE.is("a 9th", x.tie(0), Due.FULL);
        DUE.is("a 9th of no kind", x.tie(6), Due.BEYOND);
        DUE.is("still eight", x.count(0), 8);
    }

    private static void add() {
        KnotFair x = new KnotFair();
        DUE.is("add, no tie", x.add(0, 1), Due.BEYOND);
        x.ropes(3);
        x.tie(0);
        x.tie(1);
        DUE.is("add(0, 0)", x.add(0, 0), Due.BEYOND);
        DUE.is("add(0, 3) of 3 ropes", x.add(0, 3), Due.BEYOND);
        DUE.is("add(0, -3) of 3 ropes", x.add(0, -3), Due.BEYOND);
        DUE.is("add(0, MIN)", x.add(0, Integer.MIN_VALUE), Due.BEYOND);
        DUE.is("add(0, MAX)", x.add(0, Integer.MAX_VALUE), Due.BEYOND);
        DUE.is("add(-1, 1)", x.add(-1, 1), Due.BEYOND);
        DUE.is("add(2, 1)", x.add(2, 1), Due.BEYOND);
        int[] row = new int[12];
        for (int k = 0; k < 12; k++) {
            row[k] = (k % 2 + 1) * (k % 3 == 0 ? -1 : 1);
            DUE.is("add", x.add(0, row[k]), k + 1);
        }
        DUE.holds("the row as added", Due.hasRow(x, 0, row));
        DUE.is("a 13th", x.add(0, 1), Due.FULL);
        DUE.is("a 13th that is none", x.add(0, 3), Due.BEYOND);
        DUE.is("the other row", x.of(1, 1), 0);
        DUE.is("still twelve", x.count(2), 12);
    }

    private static void drop() {
        KnotFair x = Due.fair(4, 5, 1, -3, 2);
        DUE.is("drop", x.drop(0), 2);
        DUE.is("drop", x.drop(0), -3);
        DUE.is("one stays", x.of(0, 1), 1);
        DUE.is("drop", x.drop(0), 1);
        DUE.is("drop of none", x.drop(0), Due.NONE);
        DUE.is("drop(1)", x.drop(1), Due.BEYOND);
        DUE.is("drop(-1)", x.drop(-1), Due.BEYOND);
    }

    private static void flip() {
        KnotFair x = Due.fair(4, 1, 1, -3, 2);
        DUE.is("flip", x.flip(0, 1), 3);
        DUE.is("flip", x.flip(0, 0), -1);
        DUE.is("flip back", x.flip(0, 0), 1);
        DUE.holds("flipped row", Due.hasRow(x, 0, 1, 3, 2));
        DUE.is("flip(0, 3)", x.flip(0, 3), Due.BEYOND);
        DUE.is("flip(0, -1)", x.flip(0, -1), Due.BEYOND);
        DUE.is("flip(1, 0)", x.flip(1, 0), Due.BEYOND);
        x.drop(0);
        DUE.is("flip of a dropped one", x.flip(0, 2), Due.BEYOND);
    }

    private static void of() {
        KnotFair x = Due.fair(4, 3, 1, 2, 3, 1);
        DUE.is("kind", x.of(0, 0), 3);
        DUE.is("row", x.of(0, 1), 4);
        DUE.is("laid", x.of(0, 2), 8);
        DUE.is("of(0, 3)", x.of(0, 3), Due.BEYOND);
        DUE.is("of(0, -1)", x.of(0, -1), Due.BEYOND);
        DUE.is("of(1, 0)", x.of(1, 0), Due.BEYOND);
        DUE.is("of(-1, 0)", x.of(-1, 0), Due.BEYOND);
        for (int kind = 0; kind < 6; kind++) {
            x.turn(0, kind);
            DUE.is("laid by kind " + kind, x.of(0, 2), kind == 3 ? 8 : 4);
        }
    }

    private static void turn() {
        KnotFair x = Due.fair(4, 0, 1, 2);
        DUE.is("turn(0, 5)", x.turn(0, 5), 0);
        DUE.is("turn(0, 4)", x.turn(0, 4), 5);
        DUE.is("turn(0, 4) again", x.turn(0, 4), 4);
        DUE.is("turn(0, 6)", x.turn(0, 6), Due.BEYOND);
        DUE.is("turn(0, -1)", x.turn(0, -1), Due.BEYOND);
        DUE.is("turn(1, 0)", x.turn(1, 0), Due.BEYOND);
        DUE.is("the kind stays", x.of(0, 0), 4);
        DUE.holds("the row stays", Due.hasRow(x, 0, 1, 2));
    }

    private static void as() {
        String[] tops = {"0", "01", "02", "03", "024", "015"};
        for (int kind = 0; kind < 6; kind++) {
            KnotFair x = Due.fair(4, kind, 1, 2, 3);
            for (int top = 0; top < 6; top++) {
                boolean under = tops[kind].indexOf('0' + top) >= 0;
                DUE.is("kind " + kind + " as " + top, x.as(0, top), under ? 3 : Due.KIND);
            }
            DUE.is("as(0, 6)", x.as(0, 6), Due.BEYOND);
            DUE.is("as(0, -1)", x.as(0, -1), Due.BEYOND);
            DUE.is("as(1, 0)", x.as(1, 0), Due.BEYOND);
        }
    }

    private static void lays() {
        KnotFair x = Due.fair(4, 0, 1, -2, 3, 3);
        int[][] laid = {
            {1, -2, 3, 3}, {-1, 2, -3, -3}, {3, 3, -2, 1}, {1, -2, 3, 3, 1, -2, 3, 3},
            {-3, -3, 2, -1}, {-3, 2, -1, -1}};
        for (int kind = 0; kind < 6; kind++) {
            x.turn(0, kind);
            DUE.holds("laid by kind " + kind, Due.lays(x, 0, laid[kind]));
        }
        DUE.is("lays(0, -1)", x.lays(0, -1), Due.BEYOND);
        DUE.is("lays(1, 0)", x.lays(1, 0), Due.BEYOND);
        DUE.is("lays(0, MAX)", x.lays(0, Integer.MAX_VALUE), Due.NONE);
        DUE.holds("mirrored, 3 ropes", Due.lays(Due.fair(3, 5, 1, -2), 0, -2, 1));
        DUE.holds("mirrored, 2 ropes", Due.lays(Due.fair(2, 5, 1, -1), 0, -1, 1));
        KnotFair full = Due.fair(2, 3, 1, 1, 1, 1, 1, 1, 1, 1, 1, 1, 1, -1);
        DUE.is("twice twelve", full.lays(0, 23), -1);
        DUE.is("twice twelve, no 25th", full.lays(0, 24), Due.NONE);
    }

    private static void like() {
        KnotFair x = Due.fair(4, 0, 1, -2, 3);
        Due.tie(x, 2, 3, 3, 3, 3);
        DUE.is("like(1, 0)", x.like(1, 0), 3);
        DUE.is("its kind stays", x.of(1, 0), 2);
        DUE.holds("its row", Due.hasRow(x, 1, 1, -2, 3));
        x.add(0, 1);
        DUE.is("it is a row of its own", x.of(1, 1), 3);
        DUE.is("like itself", x.like(0, 0), 4);
        DUE.holds("as it was", Due.hasRow(x, 0, 1, -2, 3, 1));
        DUE.is("like(0, 2)", x.like(0, 2), Due.BEYOND);
        DUE.is("like(2, 0)", x.like(2, 0), Due.BEYOND);
        DUE.is("like(-1, 0)", x.like(-1, 0), Due.BEYOND);
        x.tie(0);
        DUE.is("like an empty one", x.like(0, 2), 0);
        DUE.is("empty then", x.of(0, 1), 0);
    }
}
