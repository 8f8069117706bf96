/** Promises 37 to 42. */
public final class SheetsTest {
    private static final Due DUE = new Due();

    public static void main(String[] args) {
        sheet();
        write();
        copy();
        load();
        show();
        read();
        DUE.end();
    }

    private static KnotFair written(int s, int bits, long... numbers) {
        KnotFair x = new KnotFair();
        write(x, s, bits, numbers);
        return x;
    }

    private static void write(KnotFair x, int s, int bits, long... numbers) {
        x.sheet(s, bits, numbers.length);
        for (int i = 0; i < numbers.length; i++) {
            x.write(s, i, numbers[i]);
        }
    }

    private static void holds(String what, KnotFair x, int s, long... numbers) {
        for (int i = 0; i < numbers.length; i++) {
            long v = x.write(s, i, 0);
            DUE.is(what + ", number " + i, v, numbers[i]);
            x.write(s, i, v);
        }
        DUE.is(what + ", no more", x.write(s, numbers.length, 0), Due.BEYOND);
    }

    private static void sheet() {
        KnotFair x = new KnotFair();
        DUE.is("sheet(4)", x.sheet(4, 8, 1), Due.BEYOND);
        DUE.is("sheet(-1)", x.sheet(-1, 8, 1), Due.BEYOND);
        DUE.is("sheet(4), size below 0", x.sheet(4, 8, -1), Due.BEYOND);
        DUE.is("32 bits", x.sheet(0, 32, 1), Due.BEYOND);
        DUE.is("32 bits, size below 0", x.sheet(0, 32, -1), Due.BEYOND);
        DUE.is("-8 bits", x.sheet(0, -8, 1), Due.BEYOND);
        DUE.is("size -1", x.sheet(0, 8, -1), Due.SIZE);
        DUE.is("size -1, bits 0", x.sheet(0, 0, -1), Due.SIZE);
        DUE.is("size 41", x.sheet(0, 8, 41), Due.BEYOND);
        DUE.is("size 41, bits 0", x.sheet(0, 0, 41), Due.BEYOND);
        DUE.is("still missing", x.write(0, 0, 0), Due.MISSING);
        DUE.is("size 40", x.sheet(3, 64, 40), 40);
        DUE.is("the last", x.write(3, 39, 7), 0);
        DUE.is("the first", x.write(3, 0, 7), 0);
        DUE.is("anew", x.sheet(3, 16, 40), 40);
        DUE.is("all 0", x.write(3, 39, 1), 0);
        DUE.is("the first, too", x.write(3, 0, 1), 0);
        DUE.is("missing again", x.sheet(3, 0, 12), 0);
        DUE.is("missing", x.write(3, 0, 1), Due.MISSING);
        DUE.is("empty", x.sheet(3, 8, 0), 0);
        DUE.is("empty isn't missing", x.write(3, 0, 1), Due.BEYOND);
        DUE.is("refused", x.sheet(3, 8, 41), Due.BEYOND);
        DUE.is("stays empty", x.write(3, 0, 1), Due.BEYOND);
    }

    private static void write() {
        KnotFair x = new KnotFair();
        x.sheet(0, 8, 2);
        x.sheet(1, 16, 2);
        x.sheet(2, 64, 2);
        for (int s = 0; s < 3; s++) {
            DUE.is("was 0", x.write(s, 1, 0x123456789abcdeffL), 0);
        }
        DUE.is("8 bits", x.write(0, 1, 128), -1);
        DUE.is("8 bits, 128", x.write(0, 1, 127), -128);
        DUE.is("8 bits, 127", x.write(0, 1, 0), 127);
        DUE.is("16 bits", x.write(1, 1, 32768), (short) 0xdeff);
        DUE.is("16 bits, 32768", x.write(1, 1, 128), -32768);
        DUE.is("16 bits, 128", x.write(1, 1, 0), 128);
        DUE.is("64 bits", x.write(2, 1, Due.BEYOND), 0x123456789abcdeffL);
        DUE.is("64 bits, like a finding", x.write(2, 1, 0), Due.BEYOND);
        DUE.is("which is none", x.status(-1), 0);
        DUE.is("the first is untouched", x.write(2, 0, 0), 0);
        DUE.is("write(4)", x.write(4, 0, 0), Due.BEYOND);
        DUE.is("write(-1)", x.write(-1, 0, 0), Due.BEYOND);
        DUE.is("write to a missing one", x.write(3, -1, 0), Due.MISSING);
        DUE.is("write at 2", x.write(0, 2, 0), Due.BEYOND);
        DUE.is("write at -1", x.write(0, -1, 0), Due.BEYOND);
    }

    private static void copy() {
        KnotFair x = written(0, 64, 1, 2, 3, 4, 5);
        write(x, 1, 64, 9, 9, 9);
        x.sheet(2, 8, 5);
        DUE.is("copy", x.copy(0, 3, 1, 1, 2), 2);
        holds("copied", x, 1, 9, 4, 5);
        DUE.is("up over itself", x.copy(0, 0, 0, 1, 4), 4);
        holds("up", x, 0, 1, 1, 2, 3, 4);
        DUE.is("down over itself", x.copy(0, 1, 0, 0, 4), 4);
        holds("down", x, 0, 1, 2, 3, 4, 4);
        DUE.is("none", x.copy(0, 5, 1, 3, 0), 0);
        DUE.is("none from behind the end", x.copy(0, 6, 1, 0, 0), Due.BEYOND);
        DUE.is("no such sheet", x.copy(4, 0, 0, 0, 0), Due.BEYOND);
        DUE.is("no such other sheet", x.copy(3, 0, -1, 0, 0), Due.BEYOND);
        DUE.is("missing", x.copy(3, 0, 0, 0, 0), Due.MISSING);
        DUE.is("the other missing", x.copy(2, -1, 3, 0, 0), Due.MISSING);
        DUE.is("other bits", x.copy(0, -1, 2, 0, 0), Due.KIND);
        DUE.is("from has too few", x.copy(1, 1, 0, 0, 3), Due.BEYOND);
        DUE.is("to has too few", x.copy(0, 0, 1, 1, 3), Due.BEYOND);
        DUE.is("from below 0", x.copy(0, -1, 1, 0, 1), Due.BEYOND);
        DUE.is("to below 0", x.copy(0, 0, 1, -1, 1), Due.BEYOND);
        DUE.is("n below 0", x.copy(0, 1, 1, 1, -1), Due.BEYOND);
        int max = Integer.MAX_VALUE;
        DUE.is("all too large", x.copy(0, max, 1, max, max), Due.BEYOND);
        DUE.is("all too small", x.copy(0, -max - 1, 1, -max - 1, -max - 1), Due.BEYOND);
        holds("still", x, 1, 9, 4, 5);
    }

    private static void load() {
        KnotFair x = written(1, 64, 1, -2, 3, 0, 1);
        DUE.is("load, no tie", x.load(1, 0), Due.BEYOND);
        Due.tie(x, 2, 3, 3, 3, 3, 3);
        DUE.is("up to a 0", x.load(1, 0), 3);
        DUE.holds("loaded", Due.hasRow(x, 0, 1, -2, 3));
        DUE.is("kind stays", x.of(0, 0), 2);
        x.write(1, 1, 4294967297L);
        DUE.is("up to a large one", x.load(1, 0), 1);
        x.write(1, 1, Long.MIN_VALUE);
        DUE.is("up to a small one", x.load(1, 0), 1);
        x.write(1, 0, -4);
        DUE.is("none", x.load(1, 0), 0);
        DUE.is("empty", x.of(0, 1), 0);
        write(x, 2, 8, 1, 2, 3, 1, 2, 3, 1, 2, 3, 1, 2, 3, 1, 2);
        DUE.is("twelve", x.load(2, 0), 12);
        DUE.is("the twelfth", x.drop(0), 3);
        DUE.is("load of no sheet", x.load(4, 0), Due.BEYOND);
        DUE.is("load of no sheet", x.load(-1, 0), Due.BEYOND);
        DUE.is("load of a missing one", x.load(0, 9), Due.MISSING);
        DUE.is("load, no such tie", x.load(2, 1), Due.BEYOND);
        KnotFair three = Due.fair(3, 0);
        write(three, 0, 16, 2, -2, 3);
        DUE.is("by three ropes", three.load(0, 0), 2);
    }

    private static void show() {
        KnotFair x = Due.fair(4, 3, 1, -2);
        write(x, 0, 8, 9, 9, 9, 9, 9, 9);
        DUE.is("show", x.show(0, 0), 4);
        holds("shown", x, 0, 1, -2, 1, -2, 9, 9);
        x.sheet(0, 64, 3);
        DUE.is("as far as it goes", x.show(0, 0), 3);
        holds("shown in part", x, 0, 1, -2, 1);
        DUE.is("show(4, 0)", x.show(4, 0), Due.BEYOND);
        DUE.is("show(-1, 0)", x.show(-1, 0), Due.BEYOND);
        DUE.is("show on a missing one", x.show(1, 9), Due.MISSING);
        DUE.is("show no tie", x.show(0, 1), Due.BEYOND);
        DUE.is("show no tie", x.show(0, -1), Due.BEYOND);
    }

    private static void read() {
        KnotFair x = Due.fair(4, 0, 1, -2, 3);
        Due.tie(x, 1, 1, -2, 3);
        Due.tie(x, 3, 1, -2, 3);
        Due.tie(x, 4, -3, 3, -1);
        Due.tie(x, 0);
        write(x, 0, 8, 1, -1, 1);
        DUE.is("all seen", x.read(0), 1 | 8);
        write(x, 0, 16, 0, 1, 0);
        DUE.is("one seen", x.read(0), 2);
        write(x, 0, 64, 0, 0, 0);
        DUE.is("none seen", x.read(0), 1 | 2 | 8);
        write(x, 0, 64, 1, -1, 1, 1, -1, 1);
        DUE.is("six", x.read(0), 4);
        write(x, 0, 64, -1, -1, 1, 1, -1, 1);
        DUE.is("six, the first of them wrong", x.read(0), 0);
        write(x, 0, 64, 1, -1, 1, 1, -1, -1);
        DUE.is("six, one of them wrong", x.read(0), 0);
        x.write(0, 0, 2);
        DUE.is("a 2 at the begin", x.read(0), Due.STATE);
        x.sheet(0, 64, 0);
        DUE.is("nothing", x.read(0), 16);
        x.sheet(0, 64, 40);
        DUE.is("forty", x.read(0), 0);
        x.write(0, 39, 2);
        DUE.is("a 2 at the end", x.read(0), Due.STATE);
        x.write(0, 39, -2);
        DUE.is("a -2 at the end", x.read(0), Due.STATE);
        x.write(0, 39, 4294967297L);
        DUE.is("a large one", x.read(0), Due.STATE);
        DUE.is("read(4)", x.read(4), Due.BEYOND);
        DUE.is("read(-1)", x.read(-1), Due.BEYOND);
        DUE.is("read a missing one", x.read(1), Due.MISSING);
    }
}
