import java.util.ArrayList;
import java.util.Collections;
import java.util.HashSet;
import java.util.List;
import java.util.Set;
import java.util.regex.Matcher;
import java.util.regex.Pattern;

/**
 * The document once more, by trying out all there is: slow, and written apart
 * from the class, so that a slip in one of them is seen against the other.
 */
final class Model implements Asked {
    private static final class Fault extends RuntimeException {
        private static final long serialVersionUID = 1;
        final int place;

        Fault(int place) {
            this.place = place;
        }
    }

    private static final class Told {
        int kind;
        List<Integer> row = new ArrayList<>();

        Told(int kind, List<Integer> row) {
            this.kind = kind;
            this.row.addAll(row);
        }
    }

    private static final class State {
        int ropes = 4;
        int z = 1;
        List<Told> ties = new ArrayList<>();

        State twin() {
            State s = new State();
            s.ropes = ropes;
            s.z = z;
            for (Told t : ties) {
                s.ties.add(new Told(t.kind, t.row));
            }
            return s;
        }
    }

    private static final List<String> KINDS = List.of("tie", "turned", "back", "twice", "undone", "mirrored");
    private State now = new State();
    private State kept = null;
    private String tape = "";
    private final long[][] sheets = new long[4][];
    private final int[] bits = new int[4];
    private final long[] findings = new long[7];

    private long found(int finding) {
        findings[Due.BEYOND - finding]++;
        return finding;
    }

    /** The answer to a call by its name; calls that a finding ends come first. */
    @Override
    public long call(String name, long... a) {
        if (List.of("sheet", "write", "copy", "load", "show", "read").contains(name)) {
            return sheetCall(name, a);
        }
        if (List.of("ropes", "tie", "seed", "feed", "wipe", "text", "image", "undo", "tear", "count", "status")
                .contains(name)) {
            return fairCall(name, a);
        }
        boolean two = List.of("like", "apart", "same").contains(name);
        if (!isTie(a[0]) || two && !isTie(a[1])) {
            return found(Due.BEYOND);
        }
        Told t = now.ties.get((int) a[0]);
        int i = a.length > 1 ? (int) a[1] : 0;
        switch (name) {
            case "like":
            case "apart":
            case "same":
                return pairCall(name, t, now.ties.get(i));
            case "ends":
            case "links":
            case "rings":
            case "sum":
            case "colours":
            case "shows":
                return numberCall(name, t, a);
            default:
                return tieCall(name, t, i);
        }
    }

    private boolean isTie(long t) {
        return t >= 0 && t < now.ties.size();
    }

    private boolean isCrossing(long v, State s) {
        return v != 0 && Math.abs(v) >= 1 && Math.abs(v) <= s.ropes - 1;
    }

    private List<Integer> laid(Told t, int kind) {
        List<Integer> row = new ArrayList<>(t.row);
        switch (kind) {
            case 1:
                row.replaceAll(v -> -v);
                break;
            case 2:
                Collections.reverse(row);
                break;
            case 3:
                row.addAll(t.row);
                break;
            case 4:
                Collections.reverse(row);
                row.replaceAll(v -> -v);
                break;
            case 5:
                row.replaceAll(v -> v > 0 ? -(now.ropes - v) : now.ropes + v);
                break;
            default:
        }
        return row;
    }

    private List<Integer> laid(Told t) {
        return laid(t, t.kind);
    }

    private static List<Integer> pulled(List<Integer> from) {
        List<Integer> row = new ArrayList<>(from);
        for (int i = 0; i + 1 < row.size();) {
            if (row.get(i) + row.get(i + 1) == 0) {
                row.remove(i + 1);
                row.remove(i);
                i = 0;
            } else {
                i++;
            }
        }
        return row;
    }

    private static boolean slides(List<Integer> row, int i) {
        return i + 1 < row.size() && Math.abs(Math.abs(row.get(i)) - Math.abs(row.get(i + 1))) >= 2;
    }

    private static boolean thirds(List<Integer> row, int i) {
        return i + 2 < row.size() && row.get(i).equals(row.get(i + 2)) && row.get(i) * row.get(i + 1) > 0
                && Math.abs(row.get(i) - row.get(i + 1)) == 1;
    }

    private static List<Integer> made(List<Integer> from, int i) {
        List<Integer> row = new ArrayList<>(from);
        row.set(i, from.get(i + 1));
        row.set(i + 1, from.get(i));
        if (!slides(from, i)) {
            row.set(i + 2, from.get(i + 1));
        }
        return row;
    }

    private static List<Integer> flipped(List<Integer> from, int set) {
        List<Integer> row = new ArrayList<>(from);
        for (int i = 0; i < row.size(); i++) {
            if ((set >> i & 1) == 1) {
                row.set(i, -row.get(i));
            }
        }
        return row;
    }

    private long tieCall(String name, Told t, int i) {
        switch (name) {
            case "add":
                if (!isCrossing(i, now)) {
                    return found(Due.BEYOND);
                }
                if (t.row.size() == 12) {
                    return found(Due.FULL);
                }
                t.row.add(i);
                return t.row.size();
            case "drop":
                return t.row.isEmpty() ? found(Due.NONE) : t.row.remove(t.row.size() - 1);
            case "flip":
                if (i < 0 || i >= t.row.size()) {
                    return found(Due.BEYOND);
                }
                t.row.set(i, -t.row.get(i));
                return t.row.get(i);
            case "of":
                if (i < 0 || i > 2) {
                    return found(Due.BEYOND);
                }
                return new int[] {t.kind, t.row.size(), laid(t).size()}[i];
            case "turn":
            case "as":
                return kindCall(name, t, i);
            case "lays":
                return at(laid(t), i);
            case "rest":
                return at(pulled(laid(t)), i);
            case "left":
                return pulled(laid(t)).size();
            case "pull":
                List<Integer> before = t.row;
                t.row = pulled(before);
                return before.size() - t.row.size();
            case "slide":
            case "third":
            case "moves":
            case "steps":
                return moveCall(name, t, i);
            default:
                return searchCall(name, t, i);
        }
    }

    private long at(List<Integer> row, int i) {
        if (i < 0) {
            return found(Due.BEYOND);
        }
        return i >= row.size() ? found(Due.NONE) : row.get(i);
    }

    private long kindCall(String name, Told t, int kind) {
        if (kind < 0 || kind > 5) {
            return found(Due.BEYOND);
        }
        if (name.equals("turn")) {
            int was = t.kind;
            t.kind = kind;
            return was;
        }
        boolean under = kind == 0 || kind == t.kind || kind == 2 && t.kind == 4 || kind == 1 && t.kind == 5;
        return under ? t.row.size() : found(Due.KIND);
    }

    private long moveCall(String name, Told t, int i) {
        switch (name) {
            case "slide":
            case "third":
                if (i < 0) {
                    return found(Due.BEYOND);
                }
                if (i > 12 || !(name.equals("slide") ? slides(t.row, i) : thirds(t.row, i))) {
                    return found(Due.STATE);
                }
                t.row = made(t.row, i);
                return 1;
            case "moves":
                if (i < 0 || i > 1) {
                    return found(Due.BEYOND);
                }
                int n = 0;
                for (int k = 0; k < 12; k++) {
                    n += (i == 0 ? slides(t.row, k) : thirds(t.row, k)) ? 1 : 0;
                }
                return n;
            default:
                return steps(t.row);
        }
    }

    private long steps(List<Integer> row) {
        Set<List<Integer>> front = new HashSet<>(Set.of(row));
        for (int n = 0; n <= 3; n++) {
            Set<List<Integer>> next = new HashSet<>();
            for (List<Integer> r : front) {
                if (pulled(r).isEmpty()) {
                    return n;
                }
                for (int i = 0; i < r.size(); i++) {
                    if (slides(r, i) || thirds(r, i)) {
                        next.add(made(r, i));
                    }
                }
            }
            front = next;
        }
        return found(Due.NONE);
    }

    private long searchCall(String name, Told t, int i) {
        int all = 1 << t.row.size();
        switch (name) {
            case "which":
                for (int k = 0; k < t.row.size(); k++) {
                    if (comesOut(t, 1 << k)) {
                        return k;
                    }
                }
                return found(Due.NONE);
            case "fewest":
            case "turned":
                int best = -1;
                for (int set = 0; set < all; set++) {
                    if ((best < 0 || Integer.bitCount(set) < Integer.bitCount(best)) && comesOut(t, set)) {
                        best = set;
                    }
                }
                if (best < 0) {
                    return found(Due.NONE);
                }
                return name.equals("turned") ? best : Integer.bitCount(best);
            case "best":
                int kind = 0;
                for (int k = 1; k < 6; k++) {
                    kind = pulled(laid(t, k)).size() < pulled(laid(t, kind)).size() ? k : kind;
                }
                return kind;
            case "ways":
                if (i < 0 || i > 12) {
                    return found(Due.BEYOND);
                }
                int n = 0;
                for (int set = 0; set < all; set++) {
                    n += pulled(flipped(t.row, set)).size() == i ? 1 : 0;
                }
                return n;
            case "lay":
                return lay(t, i);
            default:
                throw new IllegalArgumentException(name);
        }
    }

    private boolean comesOut(Told t, int set) {
        return pulled(laid(new Told(t.kind, flipped(t.row, set)))).isEmpty();
    }

    private int draw(int by) {
        now.z = now.z * 1103515245 + 12345;
        return (now.z >>> 8) % by;
    }

    private long lay(Told t, int n) {
        if (n < 1 || n > 12) {
            return found(Due.BEYOND);
        }
        int came = Math.min(n, 12 - t.row.size());
        for (int k = 0; k < came; k++) {
            int c = draw(now.ropes - 1) + 1;
            t.row.add(draw(2) == 1 ? -c : c);
        }
        return came;
    }

    /** The rope at each place behind a row, and the sums of signs by pairs of ropes. */
    private int[][] followed(List<Integer> row) {
        int[] ropes = {0, 1, 2, 3};
        int[][] all = new int[5][4];
        for (int v : row) {
            int c = Math.abs(v);
            int left = ropes[c - 1];
            int right = ropes[c];
            all[left][right] += v / c;
            all[right][left] += v / c;
            ropes[c - 1] = right;
            ropes[c] = left;
        }
        for (int place = 0; place < 4; place++) {
            all[4][ropes[place]] = place;
        }
        return all;
    }

    private long colours(List<Integer> row, int p) {
        int all = (int) Math.pow(p, now.ropes);
        int n = 0;
        for (int k = 0; k < all; k++) {
            int[] in = new int[now.ropes];
            for (int place = 0, rest = k; place < now.ropes; place++, rest /= p) {
                in[place] = rest % p;
            }
            int[] out = in.clone();
            for (int v : row) {
                int c = Math.abs(v);
                int left = out[c - 1];
                int right = out[c];
                out[c - 1] = v > 0 ? (2 * left - right + p) % p : right;
                out[c] = v > 0 ? left : (2 * right - left + p) % p;
            }
            n += java.util.Arrays.equals(in, out) ? 1 : 0;
        }
        return n;
    }

    private long numberCall(String name, Told t, long[] a) {
        List<Integer> row = laid(t);
        int[][] all = followed(row);
        switch (name) {
            case "ends":
                return a[1] < 0 || a[1] >= now.ropes ? found(Due.BEYOND) : all[4][(int) a[1]];
            case "links":
                if (a[1] < 0 || a[1] >= now.ropes || a[2] < 0 || a[2] >= now.ropes || a[1] == a[2]) {
                    return found(Due.BEYOND);
                }
                return all[(int) a[1]][(int) a[2]];
            case "sum":
                return row.stream().mapToInt(Integer::signum).sum();
            case "rings":
                Set<Set<Integer>> rings = new HashSet<>();
                for (int start = 0; start < now.ropes; start++) {
                    Set<Integer> ring = new HashSet<>();
                    for (int rope = start; ring.add(rope);) {
                        rope = all[4][rope];
                    }
                    rings.add(ring);
                }
                return rings.size();
            case "colours":
                return a[1] != 3 && a[1] != 5 && a[1] != 7 ? found(Due.BEYOND) : colours(row, (int) a[1]);
            default:
                for (int p = 3; p <= 7; p += 2) {
                    if (colours(row, p) != (int) Math.pow(p, now.ropes)) {
                        return p;
                    }
                }
                return found(Due.NONE);
        }
    }

    private long pairCall(String name, Told t, Told o) {
        if (name.equals("like")) {
            t.row = new ArrayList<>(o.row);
            return t.row.size();
        }
        if (name.equals("same")) {
            return pulled(laid(t)).equals(pulled(laid(o))) ? 1 : 0;
        }
        int[][] a = followed(laid(t));
        int[][] b = followed(laid(o));
        if (!java.util.Arrays.equals(a[4], b[4])) {
            return 1;
        }
        if (!java.util.Arrays.deepEquals(a, b)) {
            return 2;
        }
        for (int p = 3; p <= 7; p += 2) {
            if (colours(laid(t), p) != colours(laid(o), p)) {
                return 3;
            }
        }
        return 0;
    }

    private long fairCall(String name, long[] a) {
        int v = a.length > 0 ? (int) a[0] : 0;
        switch (name) {
            case "ropes":
                if (v < 2 || v > 4) {
                    return found(Due.BEYOND);
                }
                if (!now.ties.isEmpty()) {
                    return found(Due.STATE);
                }
                int were = now.ropes;
                now.ropes = v;
                return were;
            case "tie":
                if (v < 0 || v > 5) {
                    return found(Due.BEYOND);
                }
                if (now.ties.size() == 8) {
                    return found(Due.FULL);
                }
                now.ties.add(new Told(v, List.of()));
                return now.ties.size() - 1;
            case "seed":
                int was = now.z;
                now.z = v;
                return was;
            case "feed":
            case "wipe":
            case "text":
                return tapeCall(name, a);
            default:
                return imageCall(name, v);
        }
    }

    private long imageCall(String name, int v) {
        switch (name) {
            case "image":
                kept = now.twin();
                return 1;
            case "undo":
                if (kept == null) {
                    return found(Due.NONE);
                }
                now = kept.twin();
                return now.ties.size();
            case "tear":
                boolean had = kept != null;
                kept = null;
                return had ? 1 : 0;
            case "count":
                if (v < 0 || v > 4) {
                    return found(Due.BEYOND);
                }
                int crossings = now.ties.stream().mapToInt(t -> t.row.size()).sum();
                return new int[] {now.ties.size(), now.ropes, crossings, tape.length(), now.z}[v];
            default:
                if (v < -1 || v > 6) {
                    return found(Due.BEYOND);
                }
                return v == -1 ? java.util.Arrays.stream(findings).sum() : findings[v];
        }
    }

    private long tapeCall(String name, long[] a) {
        int had = tape.length();
        switch (name) {
            case "feed":
                if (a[1] < 1 || a[1] > 4) {
                    return found(Due.BEYOND);
                }
                if (had + a[1] > 120) {
                    return found(Due.FULL);
                }
                for (int k = (int) a[1] - 1; k >= 0; k--) {
                    tape += (char) ((int) a[0] >> 8 * k & 255);
                }
                return tape.length();
            case "wipe":
                tape = "";
                return had;
            default:
                String text = tape;
                tape = "";
                try {
                    State next = now.twin();
                    int items = told(next, text);
                    now = next;
                    return items;
                } catch (Fault f) {
                    return -1 - f.place;
                }
        }
    }

    /** Tokens and their places, with "" for the end. */
    private List<String> tokens = new ArrayList<>();
    private List<Integer> places = new ArrayList<>();
    private int next = 0;

    private int told(State s, String text) {
        tokens = new ArrayList<>();
        places = new ArrayList<>();
        next = 0;
        Matcher m = Pattern.compile("[a-z]+|[0-9]+|[^ ]", Pattern.DOTALL).matcher(text);
        while (m.find()) {
            tokens.add(m.group());
            places.add(m.start());
        }
        tokens.add("");
        places.add(text.length());
        int items = 0;
        do {
            item(s);
            items++;
        } while (took(";"));
        refuseUnless(tokens.get(next).isEmpty());
        return items;
    }

    private void refuseUnless(boolean fine) {
        if (!fine) {
            throw new Fault(places.get(next));
        }
    }

    private boolean took(String token) {
        if (tokens.get(next).equals(token)) {
            next++;
            return true;
        }
        return false;
    }

    private int number(int least, int most) {
        String t = tokens.get(next);
        refuseUnless(t.matches("0*[0-9]{1,3}"));
        int v = Integer.parseInt(t.replaceAll("^0+(?=[0-9])", ""));
        refuseUnless(v >= least && v <= most);
        next++;
        return v;
    }

    private void crossing(State s, Told t) {
        refuseUnless(t.row.size() < 12);
        boolean under = took("-");
        int c = number(1, s.ropes - 1);
        t.row.add(under ? -c : c);
    }

    private void item(State s) {
        int kind = KINDS.indexOf(tokens.get(next));
        if (kind >= 0) {
            refuseUnless(s.ties.size() < 8);
            next++;
            Told t = new Told(kind, List.of());
            s.ties.add(t);
            while (tokens.get(next).matches("-|[0-9]+")) {
                crossing(s, t);
            }
        } else if (tokens.get(next).equals("ropes")) {
            refuseUnless(s.ties.isEmpty());
            next++;
            s.ropes = number(2, 4);
        } else {
            refuseUnless(took("more"));
            Told t = s.ties.get(number(0, s.ties.size() - 1));
            crossing(s, t);
        }
    }

    private long sheetCall(String name, long[] a) {
        if (a[0] < 0 || a[0] > 3 || name.equals("copy") && (a[2] < 0 || a[2] > 3)) {
            return found(Due.BEYOND);
        }
        int s = (int) a[0];
        if (name.equals("sheet")) {
            return sheet(s, (int) a[1], (int) a[2]);
        }
        if (sheets[s] == null || name.equals("copy") && sheets[(int) a[2]] == null) {
            return found(Due.MISSING);
        }
        if (name.equals("copy")) {
            return copy(s, (int) a[1], (int) a[2], (int) a[3], (int) a[4]);
        }
        if (name.equals("write")) {
            if (a[1] < 0 || a[1] >= sheets[s].length) {
                return found(Due.BEYOND);
            }
            long was = sheets[s][(int) a[1]];
            sheets[s][(int) a[1]] = a[2] << 64 - bits[s] >> 64 - bits[s];
            return was;
        }
        return name.equals("read") ? read(s) : loadOrShow(name, s, a[1]);
    }

    private long sheet(int s, int b, int n) {
        if (!List.of(0, 8, 16, 64).contains(b)) {
            return found(Due.BEYOND);
        }
        if (n < 0) {
            return found(Due.SIZE);
        }
        if (n > 40) {
            return found(Due.BEYOND);
        }
        bits[s] = b;
        sheets[s] = b == 0 ? null : new long[n];
        return b == 0 ? 0 : n;
    }

    private long copy(int s, int from, int t, int to, int n) {
        if (bits[s] != bits[t]) {
            return found(Due.KIND);
        }
        if (from < 0 || to < 0 || n < 0 || (long) from + n > sheets[s].length || (long) to + n > sheets[t].length) {
            return found(Due.BEYOND);
        }
        long[] were = sheets[s].clone();
        for (int k = 0; k < n; k++) {
            sheets[t][to + k] = were[from + k];
        }
        return n;
    }

    private long loadOrShow(String name, int s, long tie) {
        if (!isTie(tie)) {
            return found(Due.BEYOND);
        }
        Told t = now.ties.get((int) tie);
        int n = 0;
        if (name.equals("show")) {
            List<Integer> row = laid(t);
            for (; n < row.size() && n < sheets[s].length; n++) {
                sheets[s][n] = row.get(n);
            }
            return n;
        }
        t.row = new ArrayList<>();
        for (; n < 12 && n < sheets[s].length && isCrossing(sheets[s][n], now); n++) {
            t.row.add((int) sheets[s][n]);
        }
        return n;
    }

    private long read(int s) {
        for (long v : sheets[s]) {
            if (v != 0 && v != 1 && v != -1) {
                return found(Due.STATE);
            }
        }
        int set = 0;
        for (int k = 0; k < now.ties.size(); k++) {
            List<Integer> row = laid(now.ties.get(k));
            boolean fits = row.size() == sheets[s].length;
            for (int i = 0; fits && i < row.size(); i++) {
                fits = sheets[s][i] == 0 || sheets[s][i] > 0 == row.get(i) > 0;
            }
            set += fits ? 1 << k : 0;
        }
        return set;
    }
}
