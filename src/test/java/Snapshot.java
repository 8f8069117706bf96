import java.util.function.Supplier;

/**
 * All that can be seen of an object, as a text: two objects whose texts are
 * the same can't be told apart by what they hold. Each part is asked of an
 * object of its own, as asking changes it and its promised calls are few.
 */
final class Snapshot {
    private static final long MARK = 0x0102030405060708L;

    private Snapshot() {
    }

    /** Without status, which refused calls change. */
    static String of(Supplier<Asked> fresh) {
        return ties(fresh.get()) + "; sheets" + sheets(fresh.get()) + "; tape" + tape(fresh.get())
                + "; image" + image(fresh.get());
    }

    static String status(Asked x) {
        StringBuilder told = new StringBuilder();
        for (int which = -1; which < 7; which++) {
            told.append(' ').append(x.call("status", which));
        }
        return told.toString();
    }

    private static String ties(Asked x) {
        StringBuilder told = new StringBuilder("counts");
        for (int what = 0; what < 5; what++) {
            told.append(' ').append(x.call("count", what));
        }
        long n = x.call("count", 0);
        for (int tie = 0; tie < n; tie++) {
            told.append("; tie ").append(x.call("of", tie, 0)).append(':');
            long size = x.call("of", tie, 1);
            for (int i = 0; i < size; i++) {
                told.append(' ').append(x.call("lays", tie, i));
            }
        }
        return told.toString();
    }

    private static String sheets(Asked x) {
        StringBuilder told = new StringBuilder();
        for (int s = 0; s < 4; s++) {
            for (int t = 0; t < 4; t++) {
                told.append(' ').append(x.call("copy", s, 0, t, 0, 0));
            }
        }
        for (int s = 0; s < 4; s++) {
            long v = 0;
            for (int i = 0; i <= 40 && v != Due.BEYOND && v != Due.MISSING; i++) {
                v = x.call("write", s, i, MARK);
                told.append(' ').append(v);
            }
            told.append(" of ").append(x.call("write", s, 0, 0));
        }
        return told.toString();
    }

    private static String tape(Asked x) {
        return " " + x.call("count", 3) + " " + x.call("text") + " " + ties(x);
    }

    private static String image(Asked x) {
        return " " + x.call("undo") + " " + x.call("tear") + " " + ties(x);
    }
}
