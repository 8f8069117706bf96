/** Promises 12 to 18. */
public final class MovesTest {
    private static final Due DUE = new Due();

    public static void main(String[] args) {
        pull();
        left();
        rest();
        slide();
        third();
        moves();
        steps();
        DUE.end();
    }

    private static void pull() {
        KnotFair x = Due.fair(4, 3, 1, 2, -3, 3, -2, -1, 1, 1, -2);
        DUE.is("pull", x.pull(0), 6);
        DUE.holds("pulled", Due.hasRow(x, 0, 1, 1, -2));
        DUE.is("pull again", x.pull(0), 0);
        DUE.is("kind stays", x.of(0, 0), 3);
        DUE.is("pull(1)", x.pull(1), Due.BEYOND);
        DUE.is("pull(-1)", x.pull(-1), Due.BEYOND);
        KnotFair none = Due.fair(4, 0, 1, -1, -1, 1, 2, 3, -3, -2);
        DUE.is("pull all", none.pull(0), 8);
        DUE.is("nothing stays", none.of(0, 1), 0);
        KnotFair inner = Due.fair(4, 3, 1, 2, -1);
        DUE.is("its row alone is pulled, not what it lays", inner.pull(0), 0);
        DUE.is("an empty one", Due.fair(2, 0).pull(0), 0);
    }

    private static void left() {
        KnotFair x = Due.fair(4, 3, 1, 2, -1);
        DUE.is("left of what it lays", x.left(0), 4);
        DUE.is("the row stays", x.of(0, 1), 3);
        x.turn(0, 0);
        DUE.is("left as a plain one", x.left(0), 3);
        DUE.is("left(1)", x.left(1), Due.BEYOND);
        DUE.is("left(-1)", x.left(-1), Due.BEYOND);
        DUE.is("left of nothing", Due.fair(3, 3).left(0), 0);
        DUE.is("far ones between hold", Due.fair(4, 0, 1, 3, -1, -3).left(0), 4);
        DUE.is("24", Due.fair(2, 3, 1, 1, 1, 1, 1, 1, 1, 1, 1, 1, 1, 1).left(0), 24);
    }

    private static void rest() {
        KnotFair x = Due.fair(4, 3, 1, 2, -1);
        DUE.holds("rest twice", Due.leaves(x, 0, 1, 2, 2, -1));
        x.turn(0, 4);
        DUE.holds("rest undone", Due.leaves(x, 0, 1, -2, -1));
        x.turn(0, 5);
        DUE.holds("rest mirrored", Due.leaves(x, 0, -3, -2, 3));
        DUE.is("rest(0, -1)", x.rest(0, -1), Due.BEYOND);
        DUE.is("rest(1, 0)", x.rest(1, 0), Due.BEYOND);
        DUE.is("rest(0, MAX)", x.rest(0, Integer.MAX_VALUE), Due.NONE);
    }

    private static void slide() {
        KnotFair x = Due.fair(4, 1, 1, 3, -1, 2, 2);
        DUE.is("slide(0, 0)", x.slide(0, 0), 1);
        DUE.holds("slid", Due.hasRow(x, 0, 3, 1, -1, 2, 2));
        DUE.is("1 and -1", x.slide(0, 1), Due.STATE);
        DUE.is("-1 and 2", x.slide(0, 2), Due.STATE);
        DUE.is("2 and 2", x.slide(0, 3), Due.STATE);
        DUE.is("2 and nothing", x.slide(0, 4), Due.STATE);
        DUE.is("slide(0, 12)", x.slide(0, 12), Due.STATE);
        DUE.is("slide(0, MAX)", x.slide(0, Integer.MAX_VALUE), Due.STATE);
        DUE.is("slide(0, -1)", x.slide(0, -1), Due.BEYOND);
        DUE.is("slide(1, 0)", x.slide(1, 0), Due.BEYOND);
        DUE.holds("nothing else slid", Due.hasRow(x, 0, 3, 1, -1, 2, 2));
        x.drop(0);
        x.drop(0);
        x.flip(0, 0);
        DUE.is("over another sign", x.slide(0, 0), 1);
        DUE.holds("slid over another sign", Due.hasRow(x, 0, 1, -3, -1));
    }

    private static void third() {
        KnotFair x = Due.fair(4, 2, 3, 1, 2, 1, -2, -3, -2);
        DUE.is("third(0, 1)", x.third(0, 1), 1);
        DUE.holds("made", Due.hasRow(x, 0, 3, 2, 1, 2, -2, -3, -2));
        DUE.is("third(0, 4)", x.third(0, 4), 1);
        DUE.holds("made under", Due.hasRow(x, 0, 3, 2, 1, 2, -3, -2, -3));
        DUE.is("3 2 1", x.third(0, 0), Due.STATE);
        DUE.is("the end", x.third(0, 5), Due.STATE);
        DUE.is("behind the end", x.third(0, 7), Due.STATE);
        DUE.is("third(0, MAX)", x.third(0, Integer.MAX_VALUE), Due.STATE);
        DUE.is("third(0, MAX - 1)", x.third(0, Integer.MAX_VALUE - 1), Due.STATE);
        DUE.is("third(0, -1)", x.third(0, -1), Due.BEYOND);
        DUE.is("third(1, 0)", x.third(1, 0), Due.BEYOND);
        DUE.is("unlike signs", Due.fair(4, 0, 1, -2, 1).third(0, 0), Due.STATE);
        DUE.is("unlike ends", Due.fair(4, 0, 1, 2, -1).third(0, 0), Due.STATE);
        DUE.is("too far", Due.fair(4, 0, 1, 3, 1).third(0, 0), Due.STATE);
        DUE.is("all one", Due.fair(4, 0, 1, 1, 1).third(0, 0), Due.STATE);
        KnotFair dropped = Due.fair(4, 0, 1, 2, 1);
        dropped.drop(0);
        DUE.is("a dropped one is gone", dropped.third(0, 0), Due.STATE);
    }

    private static void moves() {
        KnotFair x = Due.fair(4, 3, 1, 3, 1, 2, 1, -3);
        DUE.is("slides", x.moves(0, 0), 3);
        DUE.is("thirds", x.moves(0, 1), 1);
        DUE.is("moves(0, 2)", x.moves(0, 2), Due.BEYOND);
        DUE.is("moves(0, -1)", x.moves(0, -1), Due.BEYOND);
        DUE.is("moves(1, 0)", x.moves(1, 0), Due.BEYOND);
        DUE.is("none of an empty one", Due.fair(4, 0).moves(0, 0), 0);
    }

    private static void steps() {
        DUE.is("none needed", Due.fair(4, 0, 1, -1).steps(0), 0);
        DUE.is("one slide", Due.fair(4, 0, 1, 3, -1, -3).steps(0), 1);
        DUE.is("one third", Due.fair(4, 1, 1, 2, 1, -2, -1, -2).steps(0), 1);
        DUE.is("two slides", Due.fair(4, 0, 1, 3, 3, -1, -3, -3).steps(0), 2);
        DUE.is("three slides", Due.fair(4, 0, 1, 3, 3, 3, -1, -3, -3, -3).steps(0), 3);
        DUE.is("four are too many", Due.fair(4, 0, 1, 3, 3, 3, 3, -1, -3, -3, -3, -3).steps(0), Due.NONE);
        DUE.is("a third behind a slide", Due.fair(4, 5, 1, 2, 3, 1, -3, -2, -1, -2).steps(0), 2);
        DUE.is("a third at the begin alone", Due.fair(4, 0, 1, 2, 1, -2, 3, -3, -1, -2).steps(0), 1);
        DUE.is("it holds", Due.fair(2, 0, 1, 1).steps(0), Due.NONE);
        KnotFair x = Due.fair(4, 3, 1, 3, -1, -3);
        DUE.is("steps", x.steps(0), 1);
        DUE.holds("the row stays", Due.hasRow(x, 0, 1, 3, -1, -3));
        DUE.is("steps(1)", x.steps(1), Due.BEYOND);
        DUE.is("steps(-1)", x.steps(-1), Due.BEYOND);
    }
}
