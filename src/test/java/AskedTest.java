/** Promises 17 to 23: high, low, count, compare, text, digit, bench. */
public final class AskedTest {
    private static final long MIN = Long.MIN_VALUE;

    public static void main(String[] args) {
        halves();
        count();
        countRefuses();
        compare();
        text();
        digit();
        digitRefuses();
        bench();
        Due.end();
    }

    private static void halves() {
        Radixbench bench = Bench.of(0x0102030405060708L, -1, 1L << 32, 0x80000000L, MIN, -2, 0xFFFFFFFFL, 7);
        int[] high = {0x01020304, -1, 1, 0, Integer.MIN_VALUE, -1, 0, 0};
        int[] low = {0x05060708, -1, 0, Integer.MIN_VALUE, 0, -2, -1, 7};
        String before = Bench.state(bench);
        for (int cell = 0; cell < 8; cell++) {
            Due.is("17 high of " + cell, bench.high(cell), high[cell]);
            Due.is("18 low of " + cell, bench.low(cell), low[cell]);
        }
        for (int cell : Bench.NO_CELLS) {
            Due.outside("17 cell " + cell, () -> bench.high(cell));
            Due.outside("18 cell " + cell, () -> bench.low(cell));
        }
        Due.is("17, 18 unchanged", Bench.state(bench), before);
    }

    private static void areCounted(long number, boolean isInt, int ones, int ahead, int behind, int sign) {
        String what = "19 count of " + number + " isInt " + isInt + " what ";
        Radixbench bench = Bench.of(0, 0, 0, 0, 0, 0, number);
        int[] want = {ones, ahead, behind, sign};
        for (int k = 0; k < 4; k++) {
            Due.is(what + k, bench.count(6, k, isInt), want[k]);
        }
        Due.is(what + "unchanged", Bench.cell(bench, 6), number);
    }

    private static void count() {
        areCounted(0, false, 0, 64, 64, 0);
        areCounted(0, true, 0, 32, 32, 0);
        areCounted(1, false, 1, 63, 0, 1);
        areCounted(1, true, 1, 31, 0, 1);
        areCounted(-1, false, 64, 0, 0, -1);
        areCounted(-1, true, 32, 0, 0, -1);
        areCounted(12, false, 2, 60, 2, 1);
        areCounted(12, true, 2, 28, 2, 1);
        areCounted(MIN, false, 1, 0, 63, -1);
        areCounted(MIN, true, 0, 32, 32, 0);
        areCounted(0x80000000L, false, 1, 32, 31, 1);
        areCounted(0x80000000L, true, 1, 0, 31, -1);
        areCounted(-2147483648L, false, 33, 0, 31, -1);
        areCounted(6L << 32, false, 2, 29, 33, 1);
        areCounted(6L << 32, true, 0, 32, 32, 0);
        areCounted((-1L << 32) + 5, false, 34, 0, 0, -1);
        areCounted((-1L << 32) + 5, true, 2, 29, 0, 1);
    }

    private static void countRefuses() {
        Radixbench bench = Bench.of(5);
        String before = Bench.state(bench);
        for (boolean isInt : new boolean[] {false, true}) {
            for (int what : new int[] {-1, 4, Integer.MIN_VALUE, Integer.MAX_VALUE}) {
                Due.illegal("19 what " + what, () -> bench.count(0, what, isInt));
            }
            for (int cell : Bench.NO_CELLS) {
                Due.outside("19 cell " + cell, () -> bench.count(cell, 0, isInt));
                Due.outside("19 the cell first " + cell, () -> bench.count(cell, 4, isInt));
            }
        }
        Due.is("19 unchanged", Bench.state(bench), before);
    }

    private static void areCompared(long one, long other, int signed, int unsigned, int ints, int unsignedInts) {
        String what = "20 compare " + one + " with " + other;
        Radixbench bench = Bench.of(0, one, 0, other);
        Due.is(what, bench.compare(1, 3, false, false), signed);
        Due.is(what + " about", bench.compare(3, 1, false, false), -signed);
        Due.is(what + " unsigned", bench.compare(1, 3, true, false), unsigned);
        Due.is(what + " unsigned about", bench.compare(3, 1, true, false), -unsigned);
        Due.is(what + " ints", bench.compare(1, 3, false, true), ints);
        Due.is(what + " ints about", bench.compare(3, 1, false, true), -ints);
        Due.is(what + " unsigned ints", bench.compare(1, 3, true, true), unsignedInts);
        Due.is(what + " unsigned ints about", bench.compare(3, 1, true, true), -unsignedInts);
        Due.is(what + " itself", bench.compare(1, 1, true, false), 0);
    }

    private static void compare() {
        areCompared(3, 4, -1, -1, -1, -1);
        areCompared(30, 4, 1, 1, 1, 1);
        areCompared(4, 4, 0, 0, 0, 0);
        areCompared(-1, 1, -1, 1, -1, 1);
        areCompared(-1, -2, 1, 1, 1, 1);
        areCompared(MIN, Long.MAX_VALUE, -1, 1, 1, -1);
        areCompared(MIN, 0, -1, 1, 0, 0);
        areCompared(1L << 32, 5, 1, 1, -1, -1);
        areCompared((1L << 32) + 5, 5, 1, 1, 0, 0);
        areCompared(0x80000000L, 1, 1, 1, -1, 1);
        areCompared(0xFFFFFFFFL, 0x7FFFFFFFL, 1, 1, -1, 1);
        areCompared(-1, 0xFFFFFFFFL, -1, 1, 0, 0);
        Radixbench bench = Bench.of(3, 4);
        String before = Bench.state(bench);
        for (int cell : Bench.NO_CELLS) {
            Due.outside("20 one " + cell, () -> bench.compare(cell, 0, false, false));
            Due.outside("20 other " + cell, () -> bench.compare(0, cell, true, true));
            Due.outside("20 both " + cell, () -> bench.compare(cell, cell, true, false));
        }
        Due.is("20 unchanged", Bench.state(bench), before);
    }

    private static void text() {
        Radixbench bench = new Radixbench();
        Due.is("21 empty", bench.text(), "");
        bench.type(36, true);
        bench.type(37, true);
        bench.type(10, true);
        bench.type(35, false);
        Due.is("21 as typed", bench.text(), "-+Az");
        Due.is("21 again", bench.text(), "-+Az");
        bench.erase();
        Due.is("21 erased", bench.text(), "-+A");
        bench.put(0, 0, 255);
        bench.written(0, 2, 0);
        Due.is("21 not what would be", bench.text(), "-+A");
        bench.write(0, 16, 0);
        Due.is("21 as written", bench.text(), "ff");
    }

    private static void digit() {
        Radixbench bench = Bench.typed("09aAzZ-+");
        int[] worth = {0, 9, 10, 10, 35, 35, -1, -1};
        for (int radix = 2; radix <= 36; radix++) {
            for (int at = 0; at < worth.length; at++) {
                int want = worth[at] < radix ? worth[at] : -1;
                Due.is("22 digit " + at + " by " + radix, bench.digit(at, radix), want);
            }
        }
        Radixbench all = Bench.typed("0123456789abcdefghijklmnopqrstuvwxyzABCDEFGHIJKLMNOPQRSTUVWXYZ");
        for (int at = 0; at < 62; at++) {
            Due.is("22 worth at " + at, all.digit(at, 36), at < 36 ? at : at - 26);
        }
    }

    private static void digitRefuses() {
        Radixbench bench = Bench.typed("12");
        String before = Bench.state(bench);
        for (int at : new int[] {-1, 2, 3, 69, 70, Integer.MIN_VALUE, Integer.MAX_VALUE}) {
            Due.outside("22 at " + at, () -> bench.digit(at, 10));
            Due.outside("22 the place first " + at, () -> bench.digit(at, 1));
        }
        for (int radix : Bench.NO_RADIXES) {
            Due.illegal("22 radix " + radix, () -> bench.digit(1, radix));
        }
        Due.is("22 unchanged", Bench.state(bench), before);
        bench.erase();
        Due.outside("22 an erased one", () -> bench.digit(1, 10));
        bench.clear();
        Due.outside("22 none", () -> bench.digit(0, 37));
        Bench.type(bench, "0123456789012345678901234567890123456789012345678901234567890123456789");
        Due.is("22 the last", bench.digit(69, 10), 9);
        Due.outside("22 behind the last", () -> bench.digit(70, 10));
    }

    private static void bench() {
        Radixbench bench = Bench.typed("12");
        bench.read(0, 10, 0);
        bench.read(0, 2, 0);
        bench.read(0, 3, 0);
        bench.read(0, 2, 3);
        bench.read(0, 2, 1);
        bench.write(0, 10, 0);
        bench.bits(0, 0, false);
        for (int often = 0; often < 9; often++) {
            bench.knock();
        }
        int[] want = {3, 3, 5, 2, 9};
        for (int what = 0; what < 5; what++) {
            Due.is("23 bench " + what, bench.bench(what), want[what]);
        }
        for (int what : new int[] {-1, 5, Integer.MIN_VALUE, Integer.MAX_VALUE}) {
            Due.illegal("23 what " + what, () -> bench.bench(what));
        }
        bench.isNumber(10, 0);
        bench.would(10, 0, true);
        bench.written(0, 10, 0);
        bench.same(10, 0);
        bench.isSound();
        bench.digest();
        for (int what = 0; what < 5; what++) {
            Due.is("23 asking counts nothing " + what, bench.bench(what), want[what]);
        }
    }
}
