/** Promises 24 to 29: isNumber, would, written, same, isSound, digest. */
public final class WouldBeTest {
    private static final long MIN = Long.MIN_VALUE;

    public static void main(String[] args) {
        asked();
        same();
        refuse();
        isSound();
        digestOfANewOne();
        digestOfEach();
        digestAsToldPlainly();
        Due.end();
    }

    private static void asked() {
        Radixbench bench = Bench.typed("3000000000");
        bench.put(2, -1, 255);
        String before = Bench.state(bench);
        Due.is("24 too great", bench.isNumber(10, 0), false);
        Due.is("24 unsigned", bench.isNumber(10, 1), true);
        Due.is("24 no digit", bench.isNumber(3, 1), false);
        Due.is("25 none is 0", bench.would(10, 0, false), 0);
        Due.is("25 high of an int", bench.would(10, 1, true), -1);
        Due.is("25 low of an int", bench.would(10, 1, false), -1294967296);
        Due.is("25 high", bench.would(10, 2, true), 0);
        Due.is("25 low", bench.would(10, 2, false), -1294967296);
        Due.is("25 high by 16", bench.would(16, 3, true), 48);
        Due.is("25 low by 16", bench.would(16, 3, false), 0);
        Due.is("26 of the int", bench.written(2, 16, 0), "ff");
        Due.is("26 of the cell", bench.written(2, 16, 2), "-ffffff01");
        Due.is("26 unsigned", bench.written(2, 16, 3), "ffffffff000000ff");
        Due.is("24 to 26 unchanged", Bench.state(bench), before);
    }

    private static void same() {
        Radixbench bench = Bench.of(255, -1, (1L << 32) + 255, 255, -1L << 32, 0xFFFFFFFFL, 0, -255);
        String[] texts = {"ff", "+0ff", "-1", "0", "-0", "ffffffff", "ffffffffffffffff", "1000000ff", "-ff", "7", "g", ""};
        int[][] want = {
            {13, 13, 9, 9}, {13, 13, 9, 9}, {34, 0, 2, 0}, {80, 80, 64, 64}, {80, 0, 64, 0}, {0, 34, 32, 32},
            {0, 0, 0, 2}, {0, 0, 4, 4}, {128, 0, 128, 0}, {0, 0, 0, 0}, {0, 0, 0, 0}, {0, 0, 0, 0}};
        for (int k = 0; k < texts.length; k++) {
            Bench.type(bench, texts[k]);
            String before = Bench.state(bench);
            for (int kind = 0; kind <= 3; kind++) {
                Due.is("27 same as '" + texts[k] + "' kind " + kind, bench.same(16, kind), want[k][kind]);
            }
            Due.is("27 unchanged", Bench.state(bench), before);
        }
        Radixbench empty = Bench.typed("0");
        Due.is("27 all", empty.same(10, 2), 255);
        Due.is("27 the radix counts", Bench.of(0, 5).same(2, 0), 0);
        Due.is("27 the last", sameAsTheLast(), 128);
    }

    private static int sameAsTheLast() {
        Radixbench bench = Bench.of(5, 6, 5, 5, 5, 5, 5, 6);
        bench.put(1, 0, 0);
        Bench.type(bench, "110");
        return bench.same(2, 3);
    }

    private static void refuse() {
        Radixbench bench = Bench.typed("1");
        String before = Bench.state(bench);
        for (int radix : Bench.NO_RADIXES) {
            Due.illegal("24 radix " + radix, () -> bench.isNumber(radix, 0));
            Due.illegal("25 radix " + radix, () -> bench.would(radix, 0, true));
            Due.illegal("26 radix " + radix, () -> bench.written(0, radix, 0));
            Due.illegal("27 radix " + radix, () -> bench.same(radix, 0));
        }
        for (int kind : Bench.NO_KINDS) {
            Due.illegal("24 kind " + kind, () -> bench.isNumber(10, kind));
            Due.illegal("25 kind " + kind, () -> bench.would(10, kind, false));
            Due.illegal("26 kind " + kind, () -> bench.written(0, 10, kind));
            Due.illegal("27 kind " + kind, () -> bench.same(10, kind));
        }
        for (int cell : Bench.NO_CELLS) {
            Due.outside("26 cell " + cell, () -> bench.written(cell, 10, 0));
            Due.outside("26 the cell first " + cell, () -> bench.written(cell, 1, 0));
            Due.outside("26 the cell first " + cell, () -> bench.written(cell, 10, 4));
        }
        Due.is("24 to 27 unchanged", Bench.state(bench), before);
    }

    private static void isSound() {
        long[][] rows = {
            {}, {1}, {-1, -1, -1, -1, -1, -1, -1, -1}, {MIN, Long.MAX_VALUE, MIN, -1, 1, MIN, 0, -1},
            {MIN, MIN, 2, 3, Long.MAX_VALUE, 0x80000000L, -2147483648L, 0xFFFFFFFFL}};
        for (long[] row : rows) {
            Radixbench bench = Bench.of(row);
            Bench.type(bench, "-x+");
            String before = Bench.state(bench);
            Due.is("28 sound", bench.isSound(), true);
            Due.is("28 unchanged", Bench.state(bench), before);
        }
    }

    private static void digestOfANewOne() {
        long d = 8111;
        for (int what = 0; what < 5; what++) {
            d = d * 31;
        }
        for (int cell = 0; cell < 8; cell++) {
            for (int v : new int[] {0, 0, 0, 64, 64, 0, 0, 32, 32, 0}) {
                d = d * 31 + v;
            }
        }
        for (int kind = 0; kind < 4; kind++) {
            d = (d * 31 * 31) * 31 + 1;
        }
        d = d * 31 * 31 + 1;
        Due.is("29 of a new one", new Radixbench().digest(), d);
    }

    /** Two states that differ in one thing that is asked have two checksums. */
    private static void digestOfEach() {
        long plain = new Radixbench().digest();
        for (int cell = 0; cell < 8; cell++) {
            Radixbench high = new Radixbench();
            high.put(cell, 1, 0);
            Due.is("29 high of " + cell, high.digest() != plain, true);
            Radixbench low = new Radixbench();
            low.put(cell, 0, 1);
            Due.is("29 low of " + cell, low.digest() != plain && low.digest() != high.digest(), true);
        }
        Radixbench knocked = new Radixbench();
        knocked.knock();
        Due.is("29 knocked", knocked.digest() != plain, true);
        Due.is("29 again", knocked.digest(), knocked.digest());
    }

    private static void digestAsToldPlainly() {
        String[] texts = {"", "0", "-1", "+zZ9", "3000000000", "--", "ff", "-8000000000000000", "99999999999999999999"};
        for (String text : texts) {
            Radixbench bench = Bench.of(-77, 255, MIN, 0x80000000L, 12, 0, 1L << 40, 255);
            Bench.type(bench, text);
            bench.read(6, 10, 3);
            bench.read(7, 16, 0);
            bench.knock();
            String before = Bench.state(bench);
            Due.is("29 with '" + text + "'", bench.digest(), plainly(bench));
            Due.is("29 unchanged", Bench.state(bench), before);
        }
        Radixbench bench = Bench.of(-1);
        bench.bits(0, 1, false);
        Due.is("29 with bits", bench.digest(), plainly(bench));
    }

    private static long plainly(Radixbench bench) {
        long d = 8111;
        for (int what = 0; what < 5; what++) {
            d = d * 31 + bench.bench(what);
        }
        for (int cell = 0; cell < 8; cell++) {
            d = d * 31 + bench.high(cell);
            d = d * 31 + bench.low(cell);
            for (int k = 0; k < 8; k++) {
                d = d * 31 + bench.count(cell, k % 4, k >= 4);
            }
        }
        for (int at = 0; at < bench.bench(0); at++) {
            d = d * 31 + bench.digit(at, 36);
        }
        for (int kind = 0; kind < 4; kind++) {
            d = d * 31 + bench.would(10, kind, true);
            d = d * 31 + bench.would(10, kind, false);
            d = d * 31 + bench.written(0, 7, kind).length();
        }
        d = d * 31 + bench.same(16, 2);
        return d * 31 + (bench.isSound() ? 1 : 0);
    }
}
