/**
 * Knots that are none: a rope man's fair of two to four ropes, of ties laid as
 * rows of crossings, and of the numbers that show whether something holds.
 */
public final class KnotFair {
    private static final int BEYOND = -1000000001;
    private static final int FULL = -1000000002;
    private static final int KIND = -1000000003;
    private static final int NONE = -1000000004;
    private static final int STATE = -1000000005;
    private static final int MISSING = -1000000006;
    private static final int SIZE = -1000000007;
    private static final int FINDINGS = 7;

    private static final int LEAST_ROPES = 2;
    private static final int MOST_ROPES = 4;
    private static final int MOST_TIES = 8;
    private static final int MOST_CROSSINGS = 12;
    private static final int MOST_LAID = 2 * MOST_CROSSINGS;
    private static final int MOST_STEPS = 3;
    private static final int MOST_BYTES = 120;
    private static final int MOST_SHEETS = 4;
    private static final int MOST_NUMBERS = 40;

    private static final int PLAIN = 0;
    private static final int TURNED = 1;
    private static final int BACK = 2;
    private static final int TWICE = 3;
    private static final int UNDONE = 4;
    private static final int MIRRORED = 5;
    private static final int KINDS = 6;
    private static final int[] KIND_ABOVE = {-1, PLAIN, PLAIN, PLAIN, BACK, TURNED};

    private static final int[] COLOUR_NUMBERS = {3, 5, 7};

    private final int[] findings = new int[FINDINGS];
    private final Fair kept = new Fair();
    private final Tape tape = new Tape();
    private final Sheet[] sheets = new Sheet[MOST_SHEETS];
    private final Row row = new Row(MOST_LAID);
    private final Row otherRow = new Row(MOST_LAID);
    private final Strands strands = new Strands();
    private final Strands otherStrands = new Strands();
    private final Colouring colouring = new Colouring();
    private final Untying untying = new Untying();
    private final Search search = new Search();
    private Fair fair = new Fair();
    private Fair draft = new Fair();
    private boolean isKept = false;

    public KnotFair() {
        for (int s = 0; s < sheets.length; s++) {
            sheets[s] = new Sheet();
        }
    }

    // ---- ties

    public int ropes(int n) {
        if (n < LEAST_ROPES || n > MOST_ROPES) {
            return found(BEYOND);
        }
        if (fair.tieCount > 0) {
            return found(STATE);
        }
        int were = fair.ropeCount;
        fair.ropeCount = n;
        return were;
    }

    public int tie(int kind) {
        if (!isKind(kind)) {
            return found(BEYOND);
        }
        if (!fair.hasRoomForTie()) {
            return found(FULL);
        }
        return fair.begin(kind);
    }

    public int add(int tie, int crossing) {
        Tie t = fair.tieAt(tie);
        if (t == null || !fair.isCrossing(crossing)) {
            return found(BEYOND);
        }
        if (!t.row.hasRoom()) {
            return found(FULL);
        }
        t.row.append(crossing);
        return t.row.size;
    }

    public int drop(int tie) {
        Tie t = fair.tieAt(tie);
        if (t == null) {
            return found(BEYOND);
        }
        if (t.row.size == 0) {
            return found(NONE);
        }
        int last = t.row.at(t.row.size - 1);
        t.row.cutTo(t.row.size - 1);
        return last;
    }

    public int flip(int tie, int i) {
        Tie t = fair.tieAt(tie);
        if (t == null || !t.row.has(i)) {
            return found(BEYOND);
        }
        t.row.negate(i);
        return t.row.at(i);
    }

    public int of(int tie, int what) {
        Tie t = fair.tieAt(tie);
        if (t == null || what < 0 || what > 2) {
            return found(BEYOND);
        }
        if (what == 0) {
            return t.kind;
        }
        return what == 1 ? t.row.size : t.laidSize();
    }

    public int turn(int tie, int kind) {
        Tie t = fair.tieAt(tie);
        if (t == null || !isKind(kind)) {
            return found(BEYOND);
        }
        int was = t.kind;
        t.kind = kind;
        return was;
    }

    public int as(int tie, int kind) {
        Tie t = fair.tieAt(tie);
        if (t == null || !isKind(kind)) {
            return found(BEYOND);
        }
        if (!isUnder(t.kind, kind)) {
            return found(KIND);
        }
        return t.row.size;
    }

    public int lays(int tie, int i) {
        Tie t = fair.tieAt(tie);
        if (t == null || i < 0) {
            return found(BEYOND);
        }
        if (i >= t.laidSize()) {
            return found(NONE);
        }
        return t.laidAt(i, fair.ropeCount);
    }

    public int like(int tie, int other) {
        Tie t = fair.tieAt(tie);
        Tie o = fair.tieAt(other);
        if (t == null || o == null) {
            return found(BEYOND);
        }
        t.row.take(o.row);
        return t.row.size;
    }

    // ---- pulls, moves

    public int pull(int tie) {
        Tie t = fair.tieAt(tie);
        if (t == null) {
            return found(BEYOND);
        }
        int before = t.row.size;
        t.row.tighten();
        return before - t.row.size;
    }

    public int left(int tie) {
        Tie t = fair.tieAt(tie);
        if (t == null) {
            return found(BEYOND);
        }
        layPulled(t, row);
        return row.size;
    }

    public int rest(int tie, int i) {
        Tie t = fair.tieAt(tie);
        if (t == null || i < 0) {
            return found(BEYOND);
        }
        layPulled(t, row);
        if (i >= row.size) {
            return found(NONE);
        }
        return row.at(i);
    }

    public int slide(int tie, int i) {
        Tie t = fair.tieAt(tie);
        if (t == null || i < 0) {
            return found(BEYOND);
        }
        if (!t.row.canSlide(i)) {
            return found(STATE);
        }
        t.row.makeSlide(i);
        return 1;
    }

    public int third(int tie, int i) {
        Tie t = fair.tieAt(tie);
        if (t == null || i < 0) {
            return found(BEYOND);
        }
        if (!t.row.canThird(i)) {
            return found(STATE);
        }
        t.row.makeThird(i);
        return 1;
    }

    public int moves(int tie, int what) {
        Tie t = fair.tieAt(tie);
        if (t == null || what < 0 || what > 1) {
            return found(BEYOND);
        }
        int places = 0;
        for (int i = 0; i < t.row.size; i++) {
            if (what == 0 ? t.row.canSlide(i) : t.row.canThird(i)) {
                places++;
            }
        }
        return places;
    }

    public int steps(int tie) {
        Tie t = fair.tieAt(tie);
        if (t == null) {
            return found(BEYOND);
        }
        int fewestMoves = search.fewestMoves(t.row);
        return fewestMoves < 0 ? found(NONE) : fewestMoves;
    }

    // ---- numbers that no change alters

    public int ends(int tie, int place) {
        Tie t = fair.tieAt(tie);
        if (t == null || !fair.isPlace(place)) {
            return found(BEYOND);
        }
        follow(t, strands);
        return strands.endOf(place);
    }

    public int sum(int tie) {
        Tie t = fair.tieAt(tie);
        if (t == null) {
            return found(BEYOND);
        }
        row.layOut(t, fair.ropeCount);
        return row.signSum();
    }

    public int links(int tie, int one, int other) {
        Tie t = fair.tieAt(tie);
        if (t == null || !fair.isPlace(one) || !fair.isPlace(other) || one == other) {
            return found(BEYOND);
        }
        follow(t, strands);
        return strands.linkOf(one, other);
    }

    public int rings(int tie) {
        Tie t = fair.tieAt(tie);
        if (t == null) {
            return found(BEYOND);
        }
        follow(t, strands);
        return strands.ringCount();
    }

    public int colours(int tie, int p) {
        Tie t = fair.tieAt(tie);
        if (t == null || !isColourNumber(p)) {
            return found(BEYOND);
        }
        return coloursOf(t, p);
    }

    public int shows(int tie) {
        Tie t = fair.tieAt(tie);
        if (t == null) {
            return found(BEYOND);
        }
        for (int p : COLOUR_NUMBERS) {
            if (coloursOf(t, p) != power(p, fair.ropeCount)) {
                return p;
            }
        }
        return found(NONE);
    }

    public int apart(int one, int other) {
        Tie t = fair.tieAt(one);
        Tie o = fair.tieAt(other);
        if (t == null || o == null) {
            return found(BEYOND);
        }
        follow(t, strands);
        follow(o, otherStrands);
        if (!strands.endsAsIn(otherStrands)) {
            return 1;
        }
        if (!strands.linksAsIn(otherStrands)) {
            return 2;
        }
        for (int p : COLOUR_NUMBERS) {
            if (coloursOf(t, p) != coloursOf(o, p)) {
                return 3;
            }
        }
        return 0;
    }

    public int same(int one, int other) {
        Tie t = fair.tieAt(one);
        Tie o = fair.tieAt(other);
        if (t == null || o == null) {
            return found(BEYOND);
        }
        layPulled(t, row);
        layPulled(o, otherRow);
        return row.isSameRow(otherRow) ? 1 : 0;
    }

    // ---- what holds, what was tied

    /*
     * For every KIND what a TIE LAYS is NONE just when its ROW is: turning,
     * mirroring and going backwards keep which neighbours cancel, and a row
     * that isn't NONE isn't so twice either. So these ask the ROW itself.
     */

    public int which(int tie) {
        Tie t = fair.tieAt(tie);
        if (t == null) {
            return found(BEYOND);
        }
        for (int i = 0; i < t.row.size; i++) {
            row.take(t.row);
            row.negate(i);
            row.tighten();
            if (row.size == 0) {
                return i;
            }
        }
        return found(NONE);
    }

    public int fewest(int tie) {
        Tie t = fair.tieAt(tie);
        if (t == null) {
            return found(BEYOND);
        }
        if (!untying.solve(t.row)) {
            return found(NONE);
        }
        return untying.turnedCount();
    }

    public int turned(int tie) {
        Tie t = fair.tieAt(tie);
        if (t == null) {
            return found(BEYOND);
        }
        if (!untying.solve(t.row)) {
            return found(NONE);
        }
        return untying.turnedSet();
    }

    public int best(int tie) {
        Tie t = fair.tieAt(tie);
        if (t == null) {
            return found(BEYOND);
        }
        int own = t.kind;
        int bestKind = PLAIN;
        int least = MOST_LAID + 1;
        for (int kind = 0; kind < KINDS; kind++) {
            t.kind = kind;
            layPulled(t, row);
            if (row.size < least) {
                least = row.size;
                bestKind = kind;
            }
        }
        t.kind = own;
        return bestKind;
    }

    public int ways(int tie, int n) {
        Tie t = fair.tieAt(tie);
        if (t == null || n < 0 || n > MOST_CROSSINGS) {
            return found(BEYOND);
        }
        return search.rowsLeaving(t.row, n);
    }

    public int lay(int tie, int n) {
        Tie t = fair.tieAt(tie);
        if (t == null || n < 1 || n > MOST_CROSSINGS) {
            return found(BEYOND);
        }
        int came = 0;
        while (came < n && t.row.hasRoom()) {
            int c = fair.drawBy(fair.ropeCount - 1) + 1;
            boolean under = fair.drawBy(2) == 1;
            t.row.append(under ? -c : c);
            came++;
        }
        return came;
    }

    public int seed(int v) {
        int was = fair.z;
        fair.z = v;
        return was;
    }

    // ---- the text

    public int feed(int bytes, int n) {
        if (n < 1 || n > 4) {
            return found(BEYOND);
        }
        if (tape.size + n > MOST_BYTES) {
            return found(FULL);
        }
        for (int k = n - 1; k >= 0; k--) {
            tape.append(bytes >>> (8 * k) & 255);
        }
        return tape.size;
    }

    public int wipe() {
        int had = tape.size;
        tape.empty();
        return had;
    }

    public int text() {
        draft.take(fair);
        int told = Teller.tell(tape, draft);
        tape.empty();
        if (told >= 0) {
            Fair old = fair;
            fair = draft;
            draft = old;
        }
        return told;
    }

    // ---- sheets

    public int sheet(int s, int bits, int n) {
        Sheet sh = sheetAt(s);
        if (sh == null || bits != 0 && bits != 8 && bits != 16 && bits != 64) {
            return found(BEYOND);
        }
        if (n < 0) {
            return found(SIZE);
        }
        if (n > MOST_NUMBERS) {
            return found(BEYOND);
        }
        sh.begin(bits, n);
        return sh.size;
    }

    public long write(int s, int i, long v) {
        Sheet sh = sheetAt(s);
        if (sh == null) {
            return found(BEYOND);
        }
        if (sh.isMissing()) {
            return found(MISSING);
        }
        if (i < 0 || i >= sh.size) {
            return found(BEYOND);
        }
        long was = sh.at(i);
        sh.put(i, v);
        return was;
    }

    public int copy(int s, int from, int t, int to, int n) {
        Sheet source = sheetAt(s);
        Sheet target = sheetAt(t);
        if (source == null || target == null) {
            return found(BEYOND);
        }
        if (source.isMissing() || target.isMissing()) {
            return found(MISSING);
        }
        if (source.bits != target.bits) {
            return found(KIND);
        }
        if (!source.hasFrom(from, n) || !target.hasFrom(to, n)) {
            return found(BEYOND);
        }
        System.arraycopy(source.numbers, from, target.numbers, to, n);
        return n;
    }

    public int load(int s, int tie) {
        Sheet sh = sheetAt(s);
        if (sh == null) {
            return found(BEYOND);
        }
        if (sh.isMissing()) {
            return found(MISSING);
        }
        Tie t = fair.tieAt(tie);
        if (t == null) {
            return found(BEYOND);
        }
        t.row.cutTo(0);
        for (int i = 0; i < sh.size && t.row.hasRoom(); i++) {
            if (!fair.isCrossing(sh.at(i))) {
                break;
            }
            t.row.append((int) sh.at(i));
        }
        return t.row.size;
    }

    public int show(int s, int tie) {
        Sheet sh = sheetAt(s);
        if (sh == null) {
            return found(BEYOND);
        }
        if (sh.isMissing()) {
            return found(MISSING);
        }
        Tie t = fair.tieAt(tie);
        if (t == null) {
            return found(BEYOND);
        }
        int shown = Math.min(sh.size, t.laidSize());
        for (int i = 0; i < shown; i++) {
            sh.put(i, t.laidAt(i, fair.ropeCount));
        }
        return shown;
    }

    public int read(int s) {
        Sheet sh = sheetAt(s);
        if (sh == null) {
            return found(BEYOND);
        }
        if (sh.isMissing()) {
            return found(MISSING);
        }
        if (!sh.holdsSignsOnly()) {
            return found(STATE);
        }
        int set = 0;
        for (int k = 0; k < fair.tieCount; k++) {
            Tie t = fair.tieAt(k);
            if (t != null && fits(sh, t)) {
                set |= 1 << k;
            }
        }
        return set;
    }

    // ---- images

    public int image() {
        kept.take(fair);
        isKept = true;
        return 1;
    }

    public int undo() {
        if (!isKept) {
            return found(NONE);
        }
        fair.take(kept);
        return fair.tieCount;
    }

    public int tear() {
        int had = isKept ? 1 : 0;
        isKept = false;
        return had;
    }

    public int count(int what) {
        switch (what) {
            case 0:
                return fair.tieCount;
            case 1:
                return fair.ropeCount;
            case 2:
                return fair.crossingCount();
            case 3:
                return tape.size;
            case 4:
                return fair.z;
            default:
                return found(BEYOND);
        }
    }

    public int status(int which) {
        if (which < -1 || which >= findings.length) {
            return found(BEYOND);
        }
        if (which >= 0) {
            return findings[which];
        }
        int all = 0;
        for (int f : findings) {
            all += f;
        }
        return all;
    }

    // ---- what several calls share

    private int found(int finding) {
        int which = BEYOND - finding;
        if (which >= 0 && which < findings.length) {
            findings[which]++;
        }
        return finding;
    }

    private static boolean isKind(int kind) {
        return kind >= 0 && kind < KINDS;
    }

    private static boolean isUnder(int kind, int top) {
        int k = kind;
        for (int level = 0; level < KINDS && isKind(k); level++) {
            if (k == top) {
                return true;
            }
            k = KIND_ABOVE[k];
        }
        return false;
    }

    private static boolean isColourNumber(int p) {
        for (int known : COLOUR_NUMBERS) {
            if (known == p) {
                return true;
            }
        }
        return false;
    }

    private static int signOf(int crossing) {
        return crossing > 0 ? 1 : -1;
    }

    private static int power(int base, int exponent) {
        int product = 1;
        for (int k = 0; k < exponent; k++) {
            product *= base;
        }
        return product;
    }

    private Sheet sheetAt(int s) {
        return s >= 0 && s < sheets.length ? sheets[s] : null;
    }

    private void layPulled(Tie t, Row to) {
        to.layOut(t, fair.ropeCount);
        to.tighten();
    }

    private void follow(Tie t, Strands to) {
        row.layOut(t, fair.ropeCount);
        to.follow(row, fair.ropeCount);
    }

    private int coloursOf(Tie t, int p) {
        row.layOut(t, fair.ropeCount);
        int free = colouring.freeOnes(row, fair.ropeCount, p);
        return power(p, free);
    }

    private boolean fits(Sheet sh, Tie t) {
        if (sh.size != t.laidSize()) {
            return false;
        }
        for (int i = 0; i < sh.size; i++) {
            long seen = sh.at(i);
            if (seen != 0 && seen != signOf(t.laidAt(i, fair.ropeCount))) {
                return false;
            }
        }
        return true;
    }

    /** A row of crossings, with room for a fixed number of them. */
    private static final class Row {
        private final int[] crossings;
        private int size = 0;

        Row(int room) {
            crossings = new int[Math.max(room, 0)];
        }

        boolean has(int i) {
            return i >= 0 && i < size && i < crossings.length;
        }

        /** 0, which is no crossing, where there is none. */
        int at(int i) {
            return has(i) ? crossings[i] : 0;
        }

        void put(int i, int crossing) {
            if (has(i)) {
                crossings[i] = crossing;
            }
        }

        boolean hasRoom() {
            return size < crossings.length;
        }

        void append(int crossing) {
            if (size >= 0 && size < crossings.length) {
                crossings[size] = crossing;
                size++;
            }
        }

        void cutTo(int n) {
            size = Math.max(0, Math.min(n, size));
        }

        void negate(int i) {
            put(i, -at(i));
        }

        void take(Row other) {
            int n = Math.min(other.size, Math.min(other.crossings.length, crossings.length));
            if (n >= 0) {
                System.arraycopy(other.crossings, 0, crossings, 0, n);
                size = n;
            }
        }

        void layOut(Tie tie, int ropeCount) {
            cutTo(0);
            int n = tie.laidSize();
            for (int i = 0; i < n; i++) {
                append(tie.laidAt(i, ropeCount));
            }
        }

        void tighten() {
            int n = size;
            cutTo(0);
            for (int i = 0; i < n && i < crossings.length; i++) {
                int crossing = crossings[i];
                if (size > 0 && at(size - 1) == -crossing) {
                    cutTo(size - 1);
                } else {
                    append(crossing);
                }
            }
        }

        boolean isSameRow(Row other) {
            if (size != other.size) {
                return false;
            }
            for (int i = 0; i < size; i++) {
                if (at(i) != other.at(i)) {
                    return false;
                }
            }
            return true;
        }

        int signSum() {
            int total = 0;
            for (int i = 0; i < size; i++) {
                total += signOf(at(i));
            }
            return total;
        }

        private static int distance(int a, int b) {
            return Math.abs(Math.abs(a) - Math.abs(b));
        }

        boolean canSlide(int i) {
            return has(i) && has(i + 1) && distance(at(i), at(i + 1)) >= 2;
        }

        boolean canThird(int i) {
            if (!has(i) || !has(i + 1) || !has(i + 2)) {
                return false;
            }
            int a = at(i);
            int b = at(i + 1);
            return a == at(i + 2) && a > 0 == b > 0 && distance(a, b) == 1;
        }

        void makeSlide(int i) {
            int first = at(i);
            put(i, at(i + 1));
            put(i + 1, first);
        }

        void makeThird(int i) {
            int a = at(i);
            int b = at(i + 1);
            put(i, b);
            put(i + 1, a);
            put(i + 2, b);
        }

        /** At one place at most one move can be made, and once more it undoes itself. */
        boolean makeMove(int i) {
            if (canSlide(i)) {
                makeSlide(i);
                return true;
            }
            if (canThird(i)) {
                makeThird(i);
                return true;
            }
            return false;
        }
    }

    /** A row as it was told, and the kind by which it is laid. */
    private static final class Tie {
        private final Row row = new Row(MOST_CROSSINGS);
        private int kind = PLAIN;

        int laidSize() {
            return kind == TWICE ? 2 * row.size : row.size;
        }

        int laidAt(int i, int ropeCount) {
            int k = i < row.size ? i : i - row.size;
            boolean backwards = kind == BACK || kind == UNDONE;
            int crossing = row.at(backwards ? row.size - 1 - k : k);
            if (kind == TURNED || kind == UNDONE) {
                return -crossing;
            }
            if (kind == MIRRORED) {
                return crossing > 0 ? crossing - ropeCount : crossing + ropeCount;
            }
            return crossing;
        }

        void take(Tie other) {
            kind = other.kind;
            row.take(other.row);
        }
    }

    /** All that an image keeps: the ropes, the ties, and z. */
    private static final class Fair {
        private final Tie[] ties = new Tie[MOST_TIES];
        private int tieCount = 0;
        private int ropeCount = MOST_ROPES;
        private int z = 1;

        Fair() {
            for (int k = 0; k < ties.length; k++) {
                ties[k] = new Tie();
            }
        }

        /** null where there is no such tie. */
        Tie tieAt(int k) {
            return k >= 0 && k < tieCount && k < ties.length ? ties[k] : null;
        }

        boolean hasRoomForTie() {
            return tieCount < ties.length;
        }

        int begin(int kind) {
            if (!hasRoomForTie()) {
                return -1;
            }
            tieCount++;
            Tie tie = tieAt(tieCount - 1);
            if (tie != null) {
                tie.kind = kind;
                tie.row.cutTo(0);
            }
            return tieCount - 1;
        }

        boolean isPlace(int place) {
            return place >= 0 && place < ropeCount;
        }

        boolean isCrossing(long v) {
            return v != 0 && v > -ropeCount && v < ropeCount;
        }

        int crossingCount() {
            int all = 0;
            for (int k = 0; k < tieCount; k++) {
                Tie tie = tieAt(k);
                all += tie == null ? 0 : tie.row.size;
            }
            return all;
        }

        int drawBy(int n) {
            z = z * 1103515245 + 12345;
            return n > 0 ? (z >>> 8) % n : 0;
        }

        void take(Fair other) {
            tieCount = other.tieCount;
            ropeCount = other.ropeCount;
            z = other.z;
            for (int k = 0; k < tieCount; k++) {
                Tie mine = tieAt(k);
                Tie theirs = other.tieAt(k);
                if (mine != null && theirs != null) {
                    mine.take(theirs);
                }
            }
        }
    }

    /** Where the ropes of a row come out, and how they link on the way. */
    private static final class Strands {
        private final int[] ropeAt = new int[MOST_ROPES];
        private final int[] signs = new int[MOST_ROPES * MOST_ROPES];
        private int ropeCount = 0;

        void follow(Row row, int ropes) {
            ropeCount = Math.max(0, Math.min(ropes, MOST_ROPES));
            for (int place = 0; place < ropeAt.length; place++) {
                ropeAt[place] = place;
            }
            for (int k = 0; k < signs.length; k++) {
                signs[k] = 0;
            }
            for (int i = 0; i < row.size; i++) {
                cross(row.at(i));
            }
        }

        private void cross(int crossing) {
            int c = Math.abs(crossing);
            if (c < 1 || c >= ropeCount) {
                return;
            }
            int leftOne = ropeAt[c - 1];
            int rightOne = ropeAt[c];
            ropeAt[c - 1] = rightOne;
            ropeAt[c] = leftOne;
            int k = pairOf(leftOne, rightOne);
            signs[k] += signOf(crossing);
        }

        /** One number for two ropes, whichever is named first. */
        private static int pairOf(int a, int b) {
            int k = Math.min(a, b) * MOST_ROPES + Math.max(a, b);
            return Math.max(0, Math.min(k, MOST_ROPES * MOST_ROPES - 1));
        }

        int linkOf(int a, int b) {
            return signs[pairOf(a, b)];
        }

        int endOf(int rope) {
            for (int place = 0; place < ropeCount; place++) {
                if (ropeAt[place] == rope) {
                    return place;
                }
            }
            return rope;
        }

        int ringCount() {
            int found = 0;
            int seen = 0;
            for (int start = 0; start < ropeCount; start++) {
                if ((seen >> start & 1) == 0) {
                    found++;
                }
                int rope = start;
                for (int k = 0; k < ropeCount; k++) {
                    seen |= 1 << rope;
                    rope = endOf(rope);
                }
            }
            return found;
        }

        boolean endsAsIn(Strands other) {
            for (int place = 0; place < ropeAt.length; place++) {
                if (ropeAt[place] != other.ropeAt[place]) {
                    return false;
                }
            }
            return true;
        }

        boolean linksAsIn(Strands other) {
            for (int k = 0; k < signs.length; k++) {
                if (signs[k] != other.signs[k]) {
                    return false;
                }
            }
            return true;
        }
    }

    /**
     * What comes out of a row at each place, as a sum of what went in. The
     * colourings are those that come out as they went in, so they are solved
     * for as equations by p instead of being tried one by one.
     */
    private static final class Colouring {
        private final int[] sums = new int[MOST_ROPES * MOST_ROPES];
        private int ropeCount = 0;
        private int p = 3;

        /** How many colours can be chosen freely: p to that many rows there are. */
        int freeOnes(Row row, int ropes, int by) {
            ropeCount = Math.max(0, Math.min(ropes, MOST_ROPES));
            p = Math.max(2, by);
            for (int place = 0; place < ropeCount; place++) {
                for (int k = 0; k < ropeCount; k++) {
                    set(place, k, place == k ? 1 : 0);
                }
            }
            for (int i = 0; i < row.size; i++) {
                cross(row.at(i));
            }
            for (int place = 0; place < ropeCount; place++) {
                set(place, place, get(place, place) - 1);
            }
            return ropeCount - rank();
        }

        private int get(int place, int k) {
            int i = place * MOST_ROPES + k;
            return i >= 0 && i < sums.length ? sums[i] : 0;
        }

        private void set(int place, int k, int v) {
            int i = place * MOST_ROPES + k;
            if (i >= 0 && i < sums.length && p > 0) {
                sums[i] = Math.floorMod(v, p);
            }
        }

        private void cross(int crossing) {
            int c = Math.abs(crossing);
            if (c < 1 || c >= ropeCount) {
                return;
            }
            for (int k = 0; k < ropeCount; k++) {
                int leftOne = get(c - 1, k);
                int rightOne = get(c, k);
                if (crossing > 0) {
                    set(c - 1, k, 2 * leftOne - rightOne);
                    set(c, k, leftOne);
                } else {
                    set(c - 1, k, rightOne);
                    set(c, k, 2 * rightOne - leftOne);
                }
            }
        }

        private int rank() {
            int done = 0;
            for (int k = 0; k < ropeCount; k++) {
                int pivot = pivotFrom(done, k);
                if (pivot >= 0) {
                    swap(done, pivot);
                    clearBelow(done, k);
                    done++;
                }
            }
            return done;
        }

        private int pivotFrom(int first, int k) {
            for (int place = first; place < ropeCount; place++) {
                if (get(place, k) != 0) {
                    return place;
                }
            }
            return -1;
        }

        private void swap(int one, int other) {
            for (int k = 0; k < ropeCount; k++) {
                int v = get(one, k);
                set(one, k, get(other, k));
                set(other, k, v);
            }
        }

        /** Multiplies across instead of dividing, which a prime p allows. */
        private void clearBelow(int top, int k) {
            int head = get(top, k);
            for (int place = top + 1; place < ropeCount; place++) {
                int lead = get(place, k);
                for (int j = 0; j < ropeCount; j++) {
                    set(place, j, get(place, j) * head - get(top, j) * lead);
                }
            }
        }
    }

    /**
     * The fewest crossings to turn so that a row is none. A row is none when
     * its crossings go away in nested pairs, so the cheapest pairing of each
     * stretch comes from those of shorter ones. A cost is how many are turned
     * (above the lowest 12 bits) and which (in them): the least cost is then
     * the fewest and, of several, the least set.
     */
    private static final class Untying {
        private static final int SIDE = MOST_CROSSINGS + 1;
        private static final int ONE_TURNED = 1 << MOST_CROSSINGS;
        private static final int IMPOSSIBLE = 1 << 24;

        private final int[] costs = new int[SIDE * SIDE];
        private int least = IMPOSSIBLE;

        boolean solve(Row row) {
            int n = Math.min(row.size, MOST_CROSSINGS);
            for (int length = 0; length <= n; length++) {
                for (int from = 0; from + length <= n; from++) {
                    setCost(from, from + length, stretchCost(row, from, from + length));
                }
            }
            least = cost(0, n);
            return least < IMPOSSIBLE;
        }

        int turnedCount() {
            return least >> MOST_CROSSINGS;
        }

        int turnedSet() {
            return least & ONE_TURNED - 1;
        }

        private int stretchCost(Row row, int from, int to) {
            if (from == to) {
                return 0;
            }
            int cheapest = IMPOSSIBLE;
            for (int k = from + 1; k < to; k++) {
                int whole = pairCost(row, from, k) + cost(from + 1, k) + cost(k + 1, to);
                cheapest = Math.min(cheapest, whole);
            }
            return cheapest;
        }

        private static int pairCost(Row row, int i, int k) {
            if (row.at(i) == -row.at(k)) {
                return 0;
            }
            return row.at(i) == row.at(k) ? ONE_TURNED | 1 << i : IMPOSSIBLE;
        }

        private int cost(int from, int to) {
            int i = from * SIDE + to;
            return i >= 0 && i < costs.length ? costs[i] : IMPOSSIBLE;
        }

        private void setCost(int from, int to, int cost) {
            int i = from * SIDE + to;
            if (i >= 0 && i < costs.length) {
                costs[i] = cost;
            }
        }
    }

    /** Tries what must be tried: moves one behind the other, and rows alike. */
    private static final class Search {
        private final Row moved = new Row(MOST_CROSSINGS);
        private final Row trial = new Row(MOST_CROSSINGS);

        /** -1 if three don't do. */
        int fewestMoves(Row row) {
            // No move and no pull alters this sum, and of nothing it is 0.
            if (row.signSum() != 0) {
                return -1;
            }
            moved.take(row);
            for (int n = 0; n <= MOST_STEPS; n++) {
                if (comesOutBy(n, moved, trial)) {
                    return n;
                }
            }
            return -1;
        }

        private static boolean comesOutBy(int n, Row moved, Row trial) {
            if (n <= 0) {
                trial.take(moved);
                trial.tighten();
                return trial.size == 0;
            }
            for (int i = 0; i < moved.size; i++) {
                if (moved.makeMove(i)) {
                    boolean out = comesOutBy(n - 1, moved, trial);
                    moved.makeMove(i);
                    if (out) {
                        return true;
                    }
                }
            }
            return false;
        }

        int rowsLeaving(Row row, int n) {
            trial.cutTo(0);
            return choicesFrom(0, row, n, trial);
        }

        /**
         * How many choices from i on leave n, with what is left so far in
         * trial, told without signs: behind its own c a crossing goes away
         * with it one way and stays the other, else it stays both ways.
         */
        private static int choicesFrom(int i, Row row, int n, Row trial) {
            if (Math.abs(n - trial.size) > row.size - i) {
                return 0;
            }
            if (!row.has(i)) {
                return 1;
            }
            int c = Math.abs(row.at(i));
            int height = trial.size;
            boolean onItsOwn = trial.at(height - 1) == c;
            int going = 0;
            if (onItsOwn) {
                trial.cutTo(height - 1);
                going = choicesFrom(i + 1, row, n, trial);
                trial.append(c);
            }
            trial.append(c);
            int staying = choicesFrom(i + 1, row, n, trial);
            trial.cutTo(height);
            return going + (onItsOwn ? staying : 2 * staying);
        }
    }

    /** The bytes of a text that isn't told yet, and the token that its telling stands at. */
    private static final class Tape {
        private static final int END = 0;
        private static final int WORD = 1;
        private static final int NUMBER = 2;
        private static final int OTHER = 3;
        private static final int TOO_LARGE = 1000;

        private final int[] bytes = new int[MOST_BYTES];
        private int size = 0;
        private int sort = END;
        private int from = 0;
        private int to = 0;
        private int value = 0;

        /** -1, which is no byte, where there is none. */
        int at(int i) {
            return i >= 0 && i < size && i < bytes.length ? bytes[i] : -1;
        }

        void append(int b) {
            if (size >= 0 && size < bytes.length) {
                bytes[size] = b;
                size++;
            }
        }

        void empty() {
            size = 0;
        }

        void goToFirst() {
            to = 0;
            goOn();
        }

        void goOn() {
            from = to;
            while (from < size && at(from) == ' ') {
                from++;
            }
            sort = sortOf(at(from));
            value = 0;
            to = sort == OTHER ? from + 1 : from;
            while (sort != OTHER && to < size && sortOf(at(to)) == sort) {
                if (sort == NUMBER) {
                    value = Math.min(TOO_LARGE, value * 10 + at(to) - '0');
                }
                to++;
            }
        }

        private static int sortOf(int b) {
            if (b < 0) {
                return END;
            }
            if (b >= 'a' && b <= 'z') {
                return WORD;
            }
            return b >= '0' && b <= '9' ? NUMBER : OTHER;
        }

        boolean isWord(String name) {
            if (sort != WORD || to - from != name.length()) {
                return false;
            }
            for (int k = 0; k < name.length(); k++) {
                if (at(from + k) != name.charAt(k)) {
                    return false;
                }
            }
            return true;
        }

        boolean isSign(char sign) {
            return sort == OTHER && at(from) == sign;
        }

        boolean isNumber(int least, int most) {
            return sort == NUMBER && value >= least && value <= most;
        }
    }

    /**
     * Tells a text to a fair. What reads a part of it says whether it could;
     * if not, the token is still the one that can't stand there.
     */
    private static final class Teller {
        /** How many items, or -1 less the place of the fault. */
        static int tell(Tape tape, Fair fair) {
            tape.goToFirst();
            for (int items = 1; items <= MOST_BYTES; items++) {
                if (!tellItem(tape, fair)) {
                    break;
                }
                if (tape.sort == Tape.END) {
                    return items;
                }
                if (!tape.isSign(';')) {
                    break;
                }
                tape.goOn();
            }
            return -1 - tape.from;
        }

        private static boolean tellItem(Tape tape, Fair fair) {
            if (tape.isWord("ropes")) {
                return tellRopes(tape, fair);
            }
            if (tape.isWord("more")) {
                return tellMore(tape, fair);
            }
            return tellTie(tape, fair, kindNamed(tape));
        }

        private static int kindNamed(Tape tape) {
            for (int kind = 0; kind < KINDS; kind++) {
                if (tape.isWord(nameOf(kind))) {
                    return kind;
                }
            }
            return -1;
        }

        private static String nameOf(int kind) {
            switch (kind) {
                case PLAIN:
                    return "tie";
                case TURNED:
                    return "turned";
                case BACK:
                    return "back";
                case TWICE:
                    return "twice";
                case UNDONE:
                    return "undone";
                default:
                    return "mirrored";
            }
        }

        private static boolean tellRopes(Tape tape, Fair fair) {
            if (fair.tieCount > 0) {
                return false;
            }
            tape.goOn();
            if (!tape.isNumber(LEAST_ROPES, MOST_ROPES)) {
                return false;
            }
            fair.ropeCount = tape.value;
            tape.goOn();
            return true;
        }

        private static boolean tellMore(Tape tape, Fair fair) {
            tape.goOn();
            if (!tape.isNumber(0, fair.tieCount - 1)) {
                return false;
            }
            Tie tie = fair.tieAt(tape.value);
            tape.goOn();
            return tellCrossing(tape, fair, tie);
        }

        private static boolean tellTie(Tape tape, Fair fair, int kind) {
            if (!isKind(kind) || !fair.hasRoomForTie()) {
                return false;
            }
            Tie tie = fair.tieAt(fair.begin(kind));
            tape.goOn();
            for (int k = 0; k <= MOST_CROSSINGS; k++) {
                if (tape.sort != Tape.NUMBER && !tape.isSign('-')) {
                    return true;
                }
                if (!tellCrossing(tape, fair, tie)) {
                    return false;
                }
            }
            return false;
        }

        /** A row that is full is refused ahead of the sign, which is its fault's place. */
        private static boolean tellCrossing(Tape tape, Fair fair, Tie tie) {
            if (tie == null || !tie.row.hasRoom()) {
                return false;
            }
            boolean under = tape.isSign('-');
            if (under) {
                tape.goOn();
            }
            if (!tape.isNumber(1, fair.ropeCount - 1)) {
                return false;
            }
            tie.row.append(under ? -tape.value : tape.value);
            tape.goOn();
            return true;
        }
    }

    /** A row of numbers of so many bits, missing while these are 0. */
    private static final class Sheet {
        private final long[] numbers = new long[MOST_NUMBERS];
        private int bits = 0;
        private int size = 0;

        boolean isMissing() {
            return bits == 0;
        }

        void begin(int newBits, int n) {
            bits = newBits;
            size = newBits == 0 ? 0 : n;
            for (int i = 0; i < numbers.length; i++) {
                numbers[i] = 0;
            }
        }

        private boolean has(int i) {
            return i >= 0 && i < size && i < numbers.length;
        }

        boolean hasFrom(int from, int n) {
            return from >= 0 && n >= 0 && from <= Math.min(size, numbers.length) - n;
        }

        long at(int i) {
            return has(i) ? numbers[i] : 0;
        }

        void put(int i, long v) {
            if (has(i)) {
                numbers[i] = lowestBits(v);
            }
        }

        private long lowestBits(long v) {
            if (bits == 8) {
                return (byte) v;
            }
            return bits == 16 ? (short) v : v;
        }

        boolean holdsSignsOnly() {
            for (int i = 0; i < size; i++) {
                if (at(i) < -1 || at(i) > 1) {
                    return false;
                }
            }
            return true;
        }
    }
}
