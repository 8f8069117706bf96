import java.util.ArrayList;
import java.util.List;
import java.util.Map;

/**
 * Calls told a line each, as in src/test/edges: "add 0 -3 = 2" asks and says
 * what is due, "seed 5" asks what must be no finding. Some lines stand for
 * several calls: see {@link #run}. What was called is kept, so that it can be
 * called again on another object.
 */
final class Script {
    /** A call as it was made; its finding if the line names one as due, else 0. */
    record Made(String name, long[] arguments, long finding) {
    }

    private static final Map<String, Integer> FINDINGS = Map.of(
            "BEYOND", Due.BEYOND, "FULL", Due.FULL, "KIND", Due.KIND, "NONE", Due.NONE, "STATE", Due.STATE,
            "MISSING", Due.MISSING, "SIZE", Due.SIZE);
    private static final Map<String, Long> BORDERS = Map.of(
            "MIN", (long) Integer.MIN_VALUE, "MAX", (long) Integer.MAX_VALUE, "LMIN", Long.MIN_VALUE,
            "LMAX", Long.MAX_VALUE);

    private final Asked asked;
    private final Due due;
    private final String title;
    private final List<Made> made = new ArrayList<>();

    Script(Asked asked, Due due, String title) {
        this.asked = asked;
        this.due = due;
        this.title = title;
    }

    private static boolean isFinding(long answer) {
        return answer >= Due.SIZE && answer <= Due.BEYOND;
    }

    List<Made> made() {
        return made;
    }

    /** Lines that stand for several calls bear names that no call has. */
    void run(String line) {
        String told = line.strip();
        int dueFrom = told.lastIndexOf('=');
        String wanted = dueFrom < 0 ? "" : told.substring(dueFrom + 1).strip();
        String asks = dueFrom < 0 ? told : told.substring(0, dueFrom).strip();
        switch (asks.split(" ")[0]) {
            case "eight":
                eight();
                break;
            case "knot":
                knot(numbers(asks.replace(":", "").substring(4)));
                break;
            case "put":
                put(numbers(asks.replace(":", "").substring(3)));
                break;
            case "blanks":
                feeds(" ".repeat((int) numbers(asks.substring(6))[0]));
                break;
            case "feeds":
                feeds(inBrackets(asks));
                break;
            case "tell":
                feeds(inBrackets(asks));
                is(line, ask("text"), number(wanted));
                break;
            case "row":
                row((int) numbers(asks.substring(3))[0], numbers(wanted));
                break;
            case "laid":
                laid((int) numbers(asks.substring(4))[0], numbers(wanted));
                break;
            case "numbers":
                written((int) numbers(asks.substring(7))[0], numbers(wanted));
                break;
            default:
                plain(line, asks, wanted);
        }
    }

    private void plain(String line, String asks, String wanted) {
        String name = asks.split(" ")[0];
        long[] arguments = numbers(asks.substring(name.length()));
        long answer = asked.call(name, arguments);
        made.add(new Made(name, arguments, FINDINGS.getOrDefault(wanted, 0)));
        if (wanted.isEmpty()) {
            due.holds(title + ": " + line.strip() + " is no finding", !isFinding(answer));
        } else {
            is(line, answer, number(wanted));
        }
    }

    private void is(String line, long got, long want) {
        due.is(title + ": " + line.strip(), got, want);
    }

    private long ask(String name, long... a) {
        made.add(new Made(name, a, 0));
        return asked.call(name, a);
    }

    private static long number(String told) {
        if (FINDINGS.containsKey(told)) {
            return FINDINGS.get(told);
        }
        return BORDERS.containsKey(told) ? BORDERS.get(told) : Long.decode(told);
    }

    private static long[] numbers(String told) {
        if (told.isBlank()) {
            return new long[0];
        }
        String[] parts = told.strip().split(" +");
        long[] all = new long[parts.length];
        for (int k = 0; k < parts.length; k++) {
            all[k] = number(parts[k]);
        }
        return all;
    }

    private static String inBrackets(String told) {
        return told.substring(told.indexOf('[') + 1, told.lastIndexOf(']'));
    }

    /** Ties 0 to 7, of kinds 0 to 5 and 0 and 1, all empty. */
    private void eight() {
        for (int k = 0; k < 8; k++) {
            is("tie", ask("tie", k % 6), k);
        }
    }

    /** A new tie of a kind, and its row. */
    private void knot(long[] kindAndRow) {
        long tie = ask("tie", kindAndRow[0]);
        for (int k = 1; k < kindAndRow.length; k++) {
            is("knot: add " + kindAndRow[k], ask("add", tie, kindAndRow[k]), k);
        }
    }

    /** A sheet, its bits, and its numbers. */
    private void put(long[] all) {
        is("put: sheet", ask("sheet", all[0], all[1], all.length - 2), all.length - 2);
        for (int i = 2; i < all.length; i++) {
            is("put: write", ask("write", all[0], i - 2, all[i]), 0);
        }
    }

    private void feeds(String text) {
        for (int i = 0; i < text.length(); i += 4) {
            int n = Math.min(4, text.length() - i);
            int bytes = 0;
            for (int k = 0; k < n; k++) {
                bytes = bytes << 8 | text.charAt(i + k);
            }
            due.holds(title + ": there is room for [" + text + "]", !isFinding(ask("feed", bytes, n)));
        }
    }

    /** The row as it was told, by what the tie lays as a plain one. */
    private void row(int tie, long[] row) {
        long kind = ask("turn", tie, 0);
        is("row of " + tie + ": how many", ask("of", tie, 1), row.length);
        for (int i = 0; i < row.length; i++) {
            is("row of " + tie + " at " + i, ask("lays", tie, i), row[i]);
        }
        ask("turn", tie, kind);
    }

    private void laid(int tie, long[] row) {
        is("laid by " + tie + ": how many", ask("of", tie, 2), row.length);
        for (int i = 0; i < row.length; i++) {
            is("laid by " + tie + " at " + i, ask("lays", tie, i), row[i]);
        }
        is("laid by " + tie + ": no more", ask("lays", tie, row.length), Due.NONE);
    }

    private void written(int s, long[] numbers) {
        for (int i = 0; i < numbers.length; i++) {
            is("sheet " + s + " at " + i, ask("write", s, i, numbers[i]), numbers[i]);
        }
        is("sheet " + s + ": no more", ask("write", s, numbers.length, 0), Due.BEYOND);
    }
}
