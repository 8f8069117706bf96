import java.util.LinkedHashMap;
import java.util.List;
import java.util.Map;
import java.util.function.Supplier;

/**
 * Each call with all arguments at and beside their borders, in states that
 * are empty, full and between: the answer, and all that is seen behind it,
 * are those of the model.
 */
public final class BordersTest {
    private static final Due DUE = new Due();
    private static final long MIN = Integer.MIN_VALUE;
    private static final long MAX = Integer.MAX_VALUE;

    private static final long[] TIE = {MIN, -1, 0, 1, 3, 7, 8, MAX};
    private static final long[] KIND = {MIN, -1, 0, 1, 2, 3, 4, 5, 6, MAX};
    private static final long[] CROSSING = {MIN, -4, -3, -2, -1, 0, 1, 2, 3, 4, MAX};
    private static final long[] ROW_PLACE = {MIN, -1, 0, 1, 9, 10, 11, 12, MAX - 1, MAX};
    private static final long[] LAID_PLACE = {MIN, -1, 0, 1, 11, 12, 22, 23, 24, MAX};
    private static final long[] PLACE = {MIN, -1, 0, 1, 2, 3, 4, MAX};
    private static final long[] WHAT = {MIN, -2, -1, 0, 1, 2, 3, 4, 5, 6, 7, MAX};
    private static final long[] COLOUR = {MIN, -3, 0, 1, 2, 3, 4, 5, 6, 7, 8, 11, MAX};
    private static final long[] UP_TO_TWELVE = {MIN, -1, 0, 1, 2, 6, 11, 12, 13, MAX};
    private static final long[] ROPES = {MIN, 1, 2, 3, 4, 5, MAX};
    private static final long[] Z = {MIN, -1, 0, 1, MAX, Due.BEYOND, Due.SIZE};
    private static final long[] BYTES = {MIN, -1, 0, 0x20202020, 0x74696531, MAX};
    private static final long[] BYTE_COUNT = {MIN, -1, 0, 1, 2, 3, 4, 5, MAX};
    private static final long[] SHEET = {MIN, -1, 0, 1, 3, 4, MAX};
    private static final long[] BITS = {MIN, -8, 0, 1, 7, 8, 16, 32, 64, 65, MAX};
    private static final long[] SIZE = {MIN, -1, 0, 1, 39, 40, 41, MAX};
    private static final long[] NUMBER_PLACE = {MIN, -1, 0, 1, 2, 3, 39, 40, MAX};
    private static final long[] NUMBER = {Long.MIN_VALUE, -129, -32769, -2, 0, 1, 128, 32768, 1L << 32, Long.MAX_VALUE};
    private static final long[] FEW = {MIN, -1, 0, 1, 3, 4, MAX};
    private static final Map<String, long[][]> ASKED = asked();

    private static final String[][] STATES = {
        {},
        {"ropes 2", "knot 3 : 1 -1 1", "knot 0 :", "put 0 8 :", "put 3 8 : 1"},
        {"ropes 3", "knot 0 : 1 2 1 -2 -1 -2", "knot 1 : 1 1", "knot 5 : 1 -2", "knot 4 : 2 2 1 -1", "image",
            "feeds [more 0 1;tie]", "put 0 64 : 1 0 -1 4294967297", "put 1 64 : 1 -1 1"},
        {"knot 0 : 1 3 -1 -3", "image", "knot 3 : 1 -3 2 -2", "knot 2 : 3 3 3", "drop 0", "seed -8",
            "put 0 16 : 2 1 0", "put 1 8 : 0 1 1", "put 3 16 : 1 1 1 1 1 1 1 1 1 1 1 1 1 1", "blanks 118"},
        {"eight", "lay 0 12", "lay 1 12", "lay 2 12", "lay 3 12", "lay 4 12", "lay 5 12", "lay 6 12", "lay 7 12",
            "image", "flip 0 11", "pull 1", "drop 2", "feeds [more 1 1;more 2 -1;ropes 3]", "sheet 0 8 40",
            "sheet 1 8 40", "sheet 2 0 40", "sheet 3 64 24", "show 0 3"},
        {"knot 3 : 1 1 1 1 1 1 1 1 1 1 1 1", "knot 3 : 1 3 1 3 -1 -3 3 1 -3 -1 -3 3", "knot 0 :",
            "knot 5 : 1 2 1 2 1 2 1 2 1 2 1 2", "image", "tear", "feeds [twice 1 - 2 3;back;more 4 -1]", "blanks 90",
            "sheet 0 64 24", "sheet 1 64 2", "sheet 3 64 12", "show 3 3"}};

    public static void main(String[] args) {
        for (String name : ASKED.keySet()) {
            DUE.holds(name + " is a call", Calls.isCall(name));
        }
        for (int k = 0; k < STATES.length; k++) {
            Script script = new Script(new Calls(new KnotFair()), DUE, "state " + k);
            for (String line : STATES[k]) {
                script.run(line);
            }
            BordersTest test = new BordersTest("state " + k, script.made());
            for (Map.Entry<String, long[][]> call : ASKED.entrySet()) {
                test.askAll(call.getKey(), call.getValue(), new long[call.getValue().length], 0);
            }
        }
        DUE.end();
    }

    private static Map<String, long[][]> asked() {
        Map<String, long[][]> all = new LinkedHashMap<>();
        all.put("ropes", new long[][] {ROPES});
        all.put("tie", new long[][] {KIND});
        all.put("add", new long[][] {TIE, CROSSING});
        for (String name : List.of("drop", "pull", "left", "steps", "sum", "rings", "shows", "which", "fewest", "turned",
                "best")) {
            all.put(name, new long[][] {TIE});
        }
        for (String name : List.of("flip", "slide", "third")) {
            all.put(name, new long[][] {TIE, ROW_PLACE});
        }
        for (String name : List.of("lays", "rest")) {
            all.put(name, new long[][] {TIE, LAID_PLACE});
        }
        for (String name : List.of("turn", "as")) {
            all.put(name, new long[][] {TIE, KIND});
        }
        for (String name : List.of("like", "apart", "same")) {
            all.put(name, new long[][] {TIE, TIE});
        }
        for (String name : List.of("of", "moves")) {
            all.put(name, new long[][] {TIE, WHAT});
        }
        for (String name : List.of("ways", "lay")) {
            all.put(name, new long[][] {TIE, UP_TO_TWELVE});
        }
        all.put("ends", new long[][] {TIE, PLACE});
        all.put("links", new long[][] {TIE, PLACE, PLACE});
        all.put("colours", new long[][] {TIE, COLOUR});
        all.put("seed", new long[][] {Z});
        all.put("feed", new long[][] {BYTES, BYTE_COUNT});
        all.put("sheet", new long[][] {SHEET, BITS, SIZE});
        all.put("write", new long[][] {SHEET, NUMBER_PLACE, NUMBER});
        all.put("copy", new long[][] {{-1, 0, 1, 3, 4}, FEW, {-1, 0, 1, 3, 4}, FEW, FEW});
        all.put("load", new long[][] {SHEET, TIE});
        all.put("show", new long[][] {SHEET, TIE});
        all.put("read", new long[][] {SHEET});
        for (String name : List.of("wipe", "text", "image", "undo", "tear")) {
            all.put(name, new long[0][]);
        }
        all.put("count", new long[][] {WHAT});
        all.put("status", new long[][] {WHAT});
        return all;
    }

    private final String state;
    private final List<Script.Made> before;

    private BordersTest(String state, List<Script.Made> before) {
        this.state = state;
        this.before = before;
    }

    private void askAll(String name, long[][] borders, long[] chosen, int k) {
        if (k < borders.length) {
            for (long v : borders[k]) {
                chosen[k] = v;
                askAll(name, borders, chosen, k + 1);
            }
            return;
        }
        ask(name, chosen.clone());
    }

    private void ask(String name, long[] a) {
        StringBuilder told = new StringBuilder(state).append(": ").append(name);
        for (long v : a) {
            told.append(' ').append(v);
        }
        DUE.is(told.toString(), in(new Calls(new KnotFair())).call(name, a), in(new Model()).call(name, a));
        Supplier<Asked> byClass = () -> behind(new Calls(new KnotFair()), name, a);
        Supplier<Asked> byModel = () -> behind(new Model(), name, a);
        DUE.holds(told + ", what is behind it", Snapshot.of(byClass).equals(Snapshot.of(byModel)));
        DUE.holds(told + ", status", Snapshot.status(byClass.get()).equals(Snapshot.status(byModel.get())));
    }

    private Asked in(Asked x) {
        for (Script.Made call : before) {
            x.call(call.name(), call.arguments());
        }
        return x;
    }

    private Asked behind(Asked x, String name, long[] a) {
        in(x).call(name, a);
        return x;
    }
}
