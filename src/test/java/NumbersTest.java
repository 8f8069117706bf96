/** Promises 19 to 26. */
public final class NumbersTest {
    private static final Due DUE = new Due();

    public static void main(String[] args) {
        ends();
        sum();
        links();
        rings();
        colours();
        shows();
        apart();
        same();
        DUE.end();
    }

    private static void ends() {
        KnotFair x = Due.fair(4, 0, 1, -2, 3);
        int[] plain = {3, 0, 1, 2};
        int[] back = {1, 2, 3, 0};
        int[] twice = {2, 3, 0, 1};
        int[][] byKind = {plain, plain, back, twice, back, back};
        for (int kind = 0; kind < 6; kind++) {
            x.turn(0, kind);
            for (int place = 0; place < 4; place++) {
                DUE.is("kind " + kind + " ends at", x.ends(0, place), byKind[kind][place]);
            }
        }
        DUE.is("ends(0, 4)", x.ends(0, 4), Due.BEYOND);
        DUE.is("ends(0, -1)", x.ends(0, -1), Due.BEYOND);
        DUE.is("ends(1, 0)", x.ends(1, 0), Due.BEYOND);
        DUE.is("place 2 of two ropes", Due.fair(2, 0, 1).ends(0, 2), Due.BEYOND);
        DUE.is("of an empty one", Due.fair(3, 0).ends(0, 2), 2);
    }

    private static void sum() {
        KnotFair x = Due.fair(4, 0, 1, -2, 3, 3, 2);
        int[] byKind = {3, -3, 3, 6, -3, -3};
        for (int kind = 0; kind < 6; kind++) {
            x.turn(0, kind);
            DUE.is("sum of kind " + kind, x.sum(0), byKind[kind]);
        }
        DUE.is("sum(1)", x.sum(1), Due.BEYOND);
        DUE.is("sum(-1)", x.sum(-1), Due.BEYOND);
        DUE.is("sum of nothing", Due.fair(2, 0).sum(0), 0);
    }

    private static void links() {
        KnotFair x = Due.fair(4, 0, 1, 2, -2, 1, -3, -3);
        DUE.is("0 and 1", x.links(0, 0, 1), 2);
        DUE.is("1 and 0", x.links(0, 1, 0), 2);
        DUE.is("0 and 2", x.links(0, 0, 2), 0);
        DUE.is("2 and 3", x.links(0, 2, 3), -2);
        DUE.is("0 and 3", x.links(0, 0, 3), 0);
        DUE.is("one and the same", x.links(0, 2, 2), Due.BEYOND);
        DUE.is("links(0, 4, 0)", x.links(0, 4, 0), Due.BEYOND);
        DUE.is("links(0, 0, 4)", x.links(0, 0, 4), Due.BEYOND);
        DUE.is("links(0, -1, 0)", x.links(0, -1, 0), Due.BEYOND);
        DUE.is("links(0, 0, -1)", x.links(0, 0, -1), Due.BEYOND);
        DUE.is("links(1, 0, 1)", x.links(1, 0, 1), Due.BEYOND);
        x.turn(0, 5);
        DUE.is("mirrored: 2 and 3", x.links(0, 2, 3), -2);
        DUE.is("mirrored: 0 and 1", x.links(0, 0, 1), 2);
        KnotFair y = Due.fair(3, 0, 1, 2);
        DUE.is("1 2: ropes 0 and 2", y.links(0, 0, 2), 1);
        DUE.is("1 2: ropes 1 and 2", y.links(0, 1, 2), 0);
        y.turn(0, 3);
        DUE.is("twice: ropes 1 and 2", y.links(0, 1, 2), 1);
        DUE.is("three ropes have no place 3", y.links(0, 0, 3), Due.BEYOND);
    }

    private static void rings() {
        DUE.is("nothing on four", Due.fair(4, 0).rings(0), 4);
        DUE.is("1 2 3", Due.fair(4, 0, 1, -2, 3).rings(0), 1);
        DUE.is("1 3", Due.fair(4, 0, 1, 3).rings(0), 2);
        DUE.is("2", Due.fair(4, 0, 2).rings(0), 3);
        DUE.is("1 2 3 twice", Due.fair(4, 3, 1, -2, 3).rings(0), 2);
        DUE.is("1 2 twice on three", Due.fair(3, 3, 1, 2).rings(0), 1);
        DUE.is("rings(1)", Due.fair(3, 3).rings(1), Due.BEYOND);
        DUE.is("rings(-1)", Due.fair(3, 3).rings(-1), Due.BEYOND);
    }

    private static void colours() {
        KnotFair three = Due.fair(2, 0, 1, 1, 1);
        DUE.is("three half turns by 3", three.colours(0, 3), 9);
        DUE.is("by 5", three.colours(0, 5), 5);
        DUE.is("by 7", three.colours(0, 7), 7);
        DUE.is("five by 5", Due.fair(2, 1, 1, 1, 1, 1, 1).colours(0, 5), 25);
        DUE.is("seven by 7", Due.fair(2, 2, 1, 1, 1, 1, 1, 1, 1).colours(0, 7), 49);
        DUE.is("1 -2 1 -2 by 5", Due.fair(3, 3, 1, -2).colours(0, 5), 25);
        DUE.is("1 -2 1 -2 by 3", Due.fair(3, 3, 1, -2).colours(0, 3), 3);
        DUE.is("nothing on four by 7", Due.fair(4, 0).colours(0, 7), 2401);
        for (int p = -1; p < 12; p++) {
            if (p != 3 && p != 5 && p != 7) {
                DUE.is("by " + p, three.colours(0, p), Due.BEYOND);
            }
        }
        DUE.is("colours(1, 3)", three.colours(1, 3), Due.BEYOND);
        DUE.is("colours(-1, 3)", three.colours(-1, 3), Due.BEYOND);
    }

    private static void shows() {
        DUE.is("nothing", Due.fair(3, 0).shows(0), Due.NONE);
        DUE.is("1 -1", Due.fair(3, 0, 1, -1).shows(0), Due.NONE);
        DUE.is("a move away from nothing", Due.fair(4, 0, 1, 3, -1, -3).shows(0), Due.NONE);
        DUE.is("1", Due.fair(3, 0, 1).shows(0), 3);
        DUE.is("1 1 1", Due.fair(2, 0, 1, 1, 1).shows(0), 5);
        DUE.is("nine half turns by 5", Due.fair(2, 0, 1, 1, 1, 1, 1, 1, 1, 1, 1).shows(0), 5);
        DUE.is("shows(1)", Due.fair(3, 0).shows(1), Due.BEYOND);
        DUE.is("shows(-1)", Due.fair(3, 0).shows(-1), Due.BEYOND);
    }

    private static void apart() {
        KnotFair x = Due.fair(3, 0, 1, 1);
        int other = Due.tie(x, 0, 1, -1);
        int single = Due.tie(x, 0, 1);
        int under = Due.tie(x, 0, 1, 1, -2, -1, -1, 2, -1, -1, 2, 1, 1, -2);
        int nothing = Due.tie(x, 0);
        DUE.is("by links", x.apart(0, other), 2);
        DUE.is("by ends", x.apart(0, single), 1);
        DUE.is("by ends, the other way", x.apart(single, 0), 1);
        DUE.is("by none", x.apart(other, nothing), 0);
        DUE.is("with itself", x.apart(0, 0), 0);
        DUE.is("links of the commutator", x.links(under, 0, 1), 0);
        KnotFair y = Due.fair(3, 3, 1, -2, 1, -2, 1, -2);
        Due.tie(y, 0);
        DUE.is("rings in one another, by colours", y.apart(0, 1), 3);
        DUE.is("apart(0, 5)", x.apart(0, 5), Due.BEYOND);
        DUE.is("apart(5, 0)", x.apart(5, 0), Due.BEYOND);
        DUE.is("apart(-1, 0)", x.apart(-1, 0), Due.BEYOND);
    }

    private static void same() {
        KnotFair x = Due.fair(4, 0, 1, 2, -2, 3);
        Due.tie(x, 1, -1, -3);
        Due.tie(x, 4, -3, -1);
        Due.tie(x, 0, 3, 1);
        Due.tie(x, 0, 1);
        DUE.is("0 and 1", x.same(0, 1), 1);
        DUE.is("1 and 0", x.same(1, 0), 1);
        DUE.is("0 and 2", x.same(0, 2), 1);
        DUE.is("slid isn't the same", x.same(0, 3), 0);
        x.add(4, 3);
        x.flip(4, 0);
        DUE.is("but for the first", x.same(0, 4), 0);
        x.drop(4);
        DUE.is("a shorter one", x.same(0, 4), 0);
        DUE.is("a longer one", x.same(4, 0), 0);
        DUE.is("same(0, 5)", x.same(0, 5), Due.BEYOND);
        DUE.is("same(5, 0)", x.same(5, 0), Due.BEYOND);
        DUE.is("same(-1, 0)", x.same(-1, 0), Due.BEYOND);
    }
}
