/** Promises 27 to 33. */
public final class HoldsTest {
    private static final Due DUE = new Due();

    public static void main(String[] args) {
        which();
        fewest();
        turned();
        best();
        ways();
        lay();
        seed();
        DUE.end();
    }

    private static void which() {
        DUE.is("1 1", Due.fair(2, 0, 1, 1).which(0), 0);
        DUE.is("2 1 1 -2 3 -3", Due.fair(4, 3, 2, 1, 1, -2, 3, -3).which(0), 1);
        DUE.is("1 -1 is none already", Due.fair(2, 0, 1, -1).which(0), Due.NONE);
        DUE.is("1 2", Due.fair(3, 5, 1, 2).which(0), Due.NONE);
        DUE.is("the last", Due.fair(3, 2, 1, 2, 2, -2, 2, -2, 2, 1).which(0), Due.NONE);
        DUE.is("-1 2 2 1", Due.fair(3, 4, -1, 2, 2, 1).which(0), 1);
        KnotFair x = Due.fair(2, 1, 1, 1);
        x.which(0);
        DUE.holds("the row stays", Due.hasRow(x, 0, 1, 1));
        DUE.is("which(1)", x.which(1), Due.BEYOND);
        DUE.is("which(-1)", x.which(-1), Due.BEYOND);
    }

    private static void fewest() {
        DUE.is("nothing", Due.fair(2, 0).fewest(0), 0);
        DUE.is("1 1 1 1", Due.fair(2, 3, 1, 1, 1, 1).fewest(0), 2);
        DUE.is("twelve", Due.fair(2, 0, 1, 1, 1, 1, 1, 1, 1, 1, 1, 1, 1, 1).fewest(0), 6);
        DUE.is("odd", Due.fair(2, 0, 1, 1, 1).fewest(0), Due.NONE);
        DUE.is("1 2 1 2", Due.fair(3, 0, 1, 2, 1, 2).fewest(0), Due.NONE);
        DUE.is("1 2 2 1", Due.fair(3, 5, 1, 2, 2, 1).fewest(0), 2);
        DUE.is("fewest(1)", Due.fair(2, 0).fewest(1), Due.BEYOND);
        DUE.is("fewest(-1)", Due.fair(2, 0).fewest(-1), Due.BEYOND);
    }

    private static void turned() {
        DUE.is("nothing", Due.fair(2, 0).turned(0), 0);
        DUE.is("1 1 1 1", Due.fair(2, 3, 1, 1, 1, 1).turned(0), 3);
        DUE.is("1 2 2 1", Due.fair(3, 5, 1, 2, 2, 1).turned(0), 3);
        DUE.is("2 -2 1 1", Due.fair(3, 2, 2, -2, 1, 1).turned(0), 4);
        DUE.is("twelve", Due.fair(2, 0, 1, 1, 1, 1, 1, 1, 1, 1, 1, 1, 1, 1).turned(0), 63);
        DUE.is("-1 1 1 1", Due.fair(2, 0, -1, 1, 1, 1).turned(0), 2);
        DUE.is("odd", Due.fair(2, 0, 1).turned(0), Due.NONE);
        DUE.is("turned(1)", Due.fair(2, 0).turned(1), Due.BEYOND);
        DUE.is("turned(-1)", Due.fair(2, 0).turned(-1), Due.BEYOND);
    }

    private static void best() {
        for (int kind = 0; kind < 6; kind++) {
            KnotFair x = Due.fair(4, kind, 1, 2, -1, 3);
            DUE.is("best of kind " + kind, x.best(0), 0);
            DUE.is("the kind stays", x.of(0, 0), kind);
        }
        DUE.is("best(1)", Due.fair(2, 0).best(1), Due.BEYOND);
        DUE.is("best(-1)", Due.fair(2, 0).best(-1), Due.BEYOND);
    }

    private static void ways() {
        KnotFair twelve = Due.fair(2, 0, 1, 1, 1, 1, 1, 1, 1, 1, 1, 1, 1, 1);
        int[] walks = {924, 0, 1584, 0, 990, 0, 440, 0, 132, 0, 24, 0, 2};
        for (int n = 0; n <= 12; n++) {
            DUE.is("twelve, left " + n, twelve.ways(0, n), walks[n]);
        }
        KnotFair x = Due.fair(3, 3, 1, 2, 2, -1);
        DUE.is("1 2 2 1, left 0", x.ways(0, 0), 4);
        DUE.is("1 2 2 1, left 2", x.ways(0, 2), 4);
        DUE.is("1 2 2 1, left 4", x.ways(0, 4), 8);
        DUE.holds("the row stays", Due.hasRow(x, 0, 1, 2, 2, -1));
        DUE.is("of nothing", Due.fair(2, 0).ways(0, 0), 1);
        DUE.is("of nothing, left 12", Due.fair(2, 0).ways(0, 12), 0);
        DUE.is("ways(0, 13)", x.ways(0, 13), Due.BEYOND);
        DUE.is("ways(0, -1)", x.ways(0, -1), Due.BEYOND);
        DUE.is("ways(0, MIN)", x.ways(0, Integer.MIN_VALUE), Due.BEYOND);
        DUE.is("ways(1, 0)", x.ways(1, 0), Due.BEYOND);
    }

    private static void lay() {
        for (int ropes = 2; ropes <= 4; ropes++) {
            KnotFair x = Due.fair(ropes, 0, 1, 1, 1, 1, 1);
            x.seed(ropes * 77777);
            int z = ropes * 77777;
            DUE.is("lay(0, 3)", x.lay(0, 3), 3);
            DUE.is("lay(0, 12)", x.lay(0, 12), 4);
            for (int i = 5; i < 12; i++) {
                z = z * 1103515245 + 12345;
                int c = 1 + (z >>> 8) % (ropes - 1);
                z = z * 1103515245 + 12345;
                DUE.is("drawn", x.lays(0, i), (z >>> 8) % 2 == 1 ? -c : c);
            }
            DUE.is("z", x.count(4), z);
            DUE.is("no room", x.lay(0, 1), 0);
            DUE.is("no draw", x.count(4), z);
            DUE.is("lay(0, 0)", x.lay(0, 0), Due.BEYOND);
            DUE.is("lay(0, 13)", x.lay(0, 13), Due.BEYOND);
            DUE.is("lay(0, -1)", x.lay(0, -1), Due.BEYOND);
            DUE.is("lay(1, 1)", x.lay(1, 1), Due.BEYOND);
            DUE.is("no draw by a finding", x.count(4), z);
        }
    }

    private static void seed() {
        KnotFair x = new KnotFair();
        DUE.is("seed(MIN)", x.seed(Integer.MIN_VALUE), 1);
        DUE.is("seed(BEYOND)", x.seed(Due.BEYOND), Integer.MIN_VALUE);
        DUE.is("seed(0)", x.seed(0), Due.BEYOND);
        DUE.is("none of these is a finding", x.status(-1), 0);
    }
}
