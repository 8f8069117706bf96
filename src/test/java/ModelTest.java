import java.util.ArrayList;
import java.util.Collections;
import java.util.List;
import java.util.Random;

/** Runs of calls by a fixed seed, each answer beside that of the slow model. */
public final class ModelTest {
    private static final Due DUE = new Due();
    private static final int RUNS = 300;
    private static final int CALLS = 512;
    private static final String[] CALLED = {
        "ropes", "tie", "add", "drop", "flip", "of", "turn", "as", "lays", "like", "pull", "left", "rest", "slide",
        "third", "moves", "steps", "ends", "sum", "links", "rings", "colours", "shows", "apart", "same", "which",
        "fewest", "turned", "best", "ways", "lay", "seed", "feed", "wipe", "text", "sheet", "write", "copy", "load",
        "show", "read", "image", "undo", "tear", "count", "status"};
    private static final String[] OF_ROWS = {
        "steps", "which", "fewest", "turned", "shows", "left", "moves", "slide", "third", "steps", "pull"};
    private static final String[] KINDS = {"tie", "turned", "back", "twice", "undone", "mirrored"};
    private static final String[] WORDS = {
        "tie", "more", "ropes", "ties", "1", "2", "0", "4", "-", ";", " ", "12", "01", "1000", "#", "7", "-1", ";;"};
    private static final int[] ODD = {Integer.MIN_VALUE, Integer.MAX_VALUE, -1, 41, 1 << 30, -7};

    private final int seed;
    private final Random random;
    private final Asked x = new Calls(new KnotFair());
    private final Model model = new Model();
    private int asked = 0;

    private ModelTest(int seed) {
        this.seed = seed;
        random = new Random(seed);
    }

    public static void main(String[] args) {
        for (int seed = 1; seed <= RUNS; seed++) {
            new ModelTest(seed).run();
        }
        DUE.end();
    }

    private void run() {
        if (random.nextInt(4) > 0) {
            begin();
        }
        while (asked < CALLS) {
            switch (random.nextInt(20)) {
                case 0:
                    tellText();
                    break;
                case 1:
                    tellRow();
                    break;
                case 2:
                    writeDown();
                    break;
                default:
                    String name = CALLED[random.nextInt(CALLED.length)];
                    ask(name, arguments(name, tie()));
            }
        }
    }

    private void begin() {
        ask("ropes", 2 + random.nextInt(3));
        for (int k = random.nextInt(7); k >= 0; k--) {
            ask("tie", random.nextInt(6));
        }
        for (int s = 0; s < 4; s++) {
            ask("sheet", s, random.nextInt(3) == 0 ? 8 : 64, random.nextInt(20));
        }
    }

    private int ties() {
        return (int) model.call("count", new long[] {0});
    }

    private int ropes() {
        return (int) model.call("count", new long[] {1});
    }

    private long tie() {
        return random.nextInt(40) == 0 ? from(-1, 8) : random.nextInt(Math.max(1, ties()));
    }

    private long from(int least, int most) {
        if (random.nextInt(60) == 0) {
            return ODD[random.nextInt(ODD.length)];
        }
        int slack = random.nextInt(15) == 0 ? 1 : 0;
        return least - slack + random.nextInt(most - least + 1 + 2 * slack);
    }

    private int goodCrossing() {
        return (1 + random.nextInt(ropes() - 1)) * (random.nextBoolean() ? 1 : -1);
    }

    /** Mostly a text that can be told, with a word out of place at times. */
    private void tellText() {
        StringBuilder text = new StringBuilder();
        int items = 1 + random.nextInt(3);
        for (int k = 0; k < items; k++) {
            text.append(k == 0 ? "" : random.nextBoolean() ? "; " : ";");
            if (random.nextInt(3) == 0) {
                text.append(KINDS[random.nextInt(6)]);
                for (int n = random.nextInt(random.nextInt(5) == 0 ? 15 : 4); n > 0; n--) {
                    text.append(' ').append(goodCrossing());
                }
            } else if (random.nextInt(6) == 0) {
                text.append("ropes ").append(from(2, 4));
            } else {
                text.append("more ").append(tie()).append(' ').append(goodCrossing());
            }
        }
        if (random.nextInt(4) == 0) {
            text.insert(random.nextInt(text.length() + 1), WORDS[random.nextInt(WORDS.length)]);
        }
        if (random.nextInt(5) > 0) {
            ask("wipe");
        }
        for (int i = 0; i < text.length(); i += 4) {
            int n = Math.min(4, text.length() - i);
            int bytes = 0;
            for (int k = 0; k < n; k++) {
                bytes = bytes << 8 | text.charAt(i + k);
            }
            ask("feed", bytes, n);
        }
        ask("text");
    }

    /** A row that comes out, or nearly: there and back again, with some of it changed. */
    private void tellRow() {
        long tie = tie();
        List<Integer> row = new ArrayList<>();
        int half = 1 + random.nextInt(6);
        for (int k = 0; k < half; k++) {
            row.add(goodCrossing());
        }
        for (int k = half - 1; k >= 0; k--) {
            row.add(-row.get(k));
        }
        for (int k = random.nextInt(4); k > 0; k--) {
            int i = random.nextInt(row.size() - 1);
            Collections.swap(row, i, i + 1);
        }
        for (int k = random.nextInt(4); k > 0; k--) {
            int i = random.nextInt(row.size());
            row.set(i, -row.get(i));
        }
        loadRow(tie, row);
        for (String name : OF_ROWS) {
            ask(name, arguments(name, tie));
        }
    }

    private void loadRow(long tie, List<Integer> row) {
        ask("sheet", 3, 8, row.size());
        for (int i = 0; i < row.size(); i++) {
            ask("write", 3, i, row.get(i));
        }
        ask("load", 3, tie);
    }

    /** What a boy could write of a tie, with slips at times. */
    private void writeDown() {
        if (ties() == 0) {
            return;
        }
        long tie = random.nextInt(ties());
        int n = (int) model.call("of", new long[] {tie, 2});
        ask("sheet", 2, 16, n);
        for (int i = 0; i < n; i++) {
            int seen = random.nextInt(3) == 0 ? 0 : Long.signum(model.call("lays", new long[] {tie, i}));
            ask("write", 2, i, random.nextInt(60) == 0 ? random.nextInt(5) - 2 : seen);
        }
        ask("read", 2);
    }

    private long[] arguments(String name, long t) {
        switch (name) {
            case "ropes":
                return new long[] {from(2, 4)};
            case "tie":
                return new long[] {from(0, 5)};
            case "add":
                return new long[] {t, random.nextInt(10) == 0 ? from(-4, 4) : goodCrossing()};
            case "of":
                return new long[] {t, from(0, 2)};
            case "turn":
            case "as":
                return new long[] {t, from(0, 5)};
            case "like":
            case "apart":
            case "same":
                return new long[] {t, tie()};
            case "flip":
            case "slide":
            case "third":
            case "ways":
                return new long[] {t, from(0, 12)};
            case "lays":
            case "rest":
                return new long[] {t, from(0, random.nextBoolean() ? 24 : 4)};
            case "moves":
                return new long[] {t, from(0, 1)};
            case "ends":
                return new long[] {t, from(0, ropes() - 1)};
            case "links":
                return new long[] {t, from(0, ropes() - 1), from(0, ropes() - 1)};
            case "colours":
                return new long[] {t, random.nextInt(6) == 0 ? from(0, 8) : 3 + 2 * random.nextInt(3)};
            case "lay":
                return new long[] {t, from(1, 12)};
            case "seed":
                return new long[] {random.nextInt()};
            case "feed":
                return new long[] {random.nextInt(), from(1, 4)};
            case "count":
                return new long[] {from(0, 4)};
            case "status":
                return new long[] {from(-1, 6)};
            case "wipe":
            case "text":
            case "image":
            case "undo":
            case "tear":
                return new long[0];
            case "sheet":
            case "write":
            case "copy":
            case "load":
            case "show":
            case "read":
                return sheetArguments(name, t);
            default:
                return new long[] {t};
        }
    }

    private long[] sheetArguments(String name, long t) {
        long s = from(0, 3);
        switch (name) {
            case "sheet":
                int[] bits = {8, 16, 64, 64, 0, 32};
                return new long[] {s, bits[random.nextInt(6)], random.nextInt(4) == 0 ? from(0, 40) : from(0, 12)};
            case "write":
                return new long[] {s, from(0, 12), random.nextInt(9) == 0 ? random.nextLong() : random.nextInt(7) - 3};
            case "copy":
                return new long[] {s, from(0, 6), from(0, 3), from(0, 6), from(0, 6)};
            case "read":
                return new long[] {s};
            default:
                return new long[] {s, t};
        }
    }

    private void ask(String name, long... a) {
        // Behind its last promised call an object's answers are free.
        if (asked >= CALLS) {
            return;
        }
        StringBuilder call = new StringBuilder("run ").append(seed).append(": ").append(name);
        for (long v : a) {
            call.append(' ').append(v);
        }
        asked++;
        DUE.is(call.toString(), x.call(name, a), model.call(name, a));
    }
}
