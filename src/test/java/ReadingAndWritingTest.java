/** Promises 7 to 9: read, write, bits; and with read the answers of isNumber and would, promises 24 and 25. */
public final class ReadingAndWritingTest {
    private static final String ZEROS = "000000000000000000000000000000000000000000000000000000000000000000000";

    public static void main(String[] args) {
        readOrdinary();
        readEdges();
        readOddTexts();
        readIntsSetBothHalves();
        readCounts();
        readRefuses();
        write();
        writeCounts();
        writeRefuses();
        bits();
        bitsRefuse();
        Due.end();
    }

    private static void isRead(String text, int radix, int kind, long want) {
        String what = "read '" + text + "' by " + radix + " kind " + kind;
        Radixbench bench = Bench.typed(text);
        bench.put(3, 77, 78);
        Due.is(what + " isNumber", bench.isNumber(radix, kind), true);
        Due.is(what + " would high", bench.would(radix, kind, true), (int) (want >> 32));
        Due.is(what + " would low", bench.would(radix, kind, false), (int) want);
        Due.is(what + " asked alone", Bench.cell(bench, 3), (77L << 32) + 78);
        Due.is(what, bench.read(3, radix, kind), 1);
        Due.is(what + " set", Bench.cell(bench, 3), want);
        Due.is(what + " text stays", bench.text(), text);
        Due.is(what + " no fault", bench.bench(1), 0);
        Due.is(what + " counted", bench.bench(2), 1);
    }

    private static void isNone(String text, int radix, int kind) {
        String what = "read '" + text + "' by " + radix + " kind " + kind;
        Radixbench bench = Bench.typed(text);
        bench.put(3, 77, 78);
        Due.is(what + " isNumber", bench.isNumber(radix, kind), false);
        Due.is(what + " would high", bench.would(radix, kind, true), 0);
        Due.is(what + " would low", bench.would(radix, kind, false), 0);
        Due.is(what + " same", bench.same(radix, kind), 0);
        Due.is(what + " asked alone", bench.bench(1), 0);
        Due.is(what, bench.read(3, radix, kind), 0);
        Due.is(what + " stays", Bench.cell(bench, 3), (77L << 32) + 78);
        Due.is(what + " text stays", bench.text(), text);
        Due.is(what + " fault", bench.bench(1), 1);
        Due.is(what + " counted", bench.bench(2), 1);
    }

    private static void readOrdinary() {
        for (int kind = 0; kind <= 3; kind++) {
            isRead("0", 10, kind, 0);
            isRead("42", 10, kind, 42);
            isRead("+42", 10, kind, 42);
            isRead("1101", 2, kind, 13);
            isRead("fF", 16, kind, 255);
            isRead("Zz", 36, kind, 1295);
            isRead("777", 8, kind, 511);
            isRead("000042", 10, kind, 42);
        }
        isRead("-42", 10, 0, -42);
        isRead("-42", 10, 2, -42);
        isNone("-42", 10, 1);
        isNone("-42", 10, 3);
        isRead("-zz", 36, 2, -1295);
        isRead("123456789abcdef", 16, 2, 0x123456789abcdefL);
    }

    private static void readEdges() {
        isRead("2147483647", 10, 0, 2147483647L);
        isNone("2147483648", 10, 0);
        isRead("-2147483648", 10, 0, -2147483648L);
        isNone("-2147483649", 10, 0);
        isRead("4294967295", 10, 1, -1);
        isNone("4294967296", 10, 1);
        isRead("9223372036854775807", 10, 2, Long.MAX_VALUE);
        isNone("9223372036854775808", 10, 2);
        isRead("-9223372036854775808", 10, 2, Long.MIN_VALUE);
        isNone("-9223372036854775809", 10, 2);
        isRead("18446744073709551615", 10, 3, -1);
        isNone("18446744073709551616", 10, 3);
        isRead("9223372036854775808", 10, 3, Long.MIN_VALUE);
        isRead("3w5e11264sgsf", 36, 3, -1);
        isNone("3w5e11264sgsg", 36, 3);
        isNone("3w5e11264sgt0", 36, 3);
        isNone("10000000000000", 36, 3);
        isRead("ffffffffffffffff", 16, 3, -1);
        isNone("ffffffffffffffff", 16, 2);
        isNone("10000000000000000", 16, 3);
        isRead("7fffffff", 16, 0, 2147483647L);
        isNone("80000000", 16, 0);
        isRead("-80000000", 16, 0, -2147483648L);
        isNone("-80000001", 16, 0);
        isNone("100000000", 16, 0);
        isNone("100000000", 16, 1);
        isNone("18446744073709551616", 10, 0);
        isNone("18446744073709551617", 10, 1);
        isNone("-18446744073709551617", 10, 2);
    }

    private static void readOddTexts() {
        for (int kind = 0; kind <= 3; kind++) {
            for (String text : new String[] {"", "+", "-", "++1", "--1", "+-1", "-+1", "1+", "1-", "1+1", "1-1", "9-"}) {
                isNone(text, 10, kind);
            }
            isNone("2", 2, kind);
            isNone("102", 2, kind);
            isNone("a", 10, kind);
            isNone("1A", 10, kind);
            isNone("Z", 35, kind);
            isNone("g0", 16, kind);
            isNone("8", 8, kind);
            isRead(ZEROS + "1", 10, kind, 1);
            isRead("+" + ZEROS, 2, kind, 0);
            isRead("+0", 10, kind, 0);
            isRead("y", 35, kind, 34);
            isNone("1" + ZEROS, 2, kind);
            isNone("1" + ZEROS, 36, kind);
            isNone("zzzzzzzzzzzzzzzzzzzzzzzzzzzzzzzzzzzzzzzzzzzzzzzzzzzzzzzzzzzzzzzzzzzzzz", 36, kind);
        }
        isRead("-0", 10, 0, 0);
        isRead("-0", 10, 2, 0);
        isNone("-0", 10, 1);
        isNone("-0", 10, 3);
        isRead("-" + ZEROS.substring(1) + "1", 3, 0, -1);
    }

    private static void readIntsSetBothHalves() {
        isRead("3000000000", 10, 1, 3000000000L - (1L << 32));
        isRead("2147483648", 10, 1, -2147483648L);
        isRead("2147483647", 10, 1, 2147483647L);
        isRead("2147483648", 10, 2, 2147483648L);
        isRead("3000000000", 10, 3, 3000000000L);
        isRead("-1", 10, 0, -1);
    }

    private static void readCounts() {
        Radixbench bench = Bench.typed("12");
        bench.read(0, 10, 0);
        bench.read(1, 2, 0);
        bench.read(2, 16, 3);
        bench.read(2, 2, 3);
        Due.is("7 counts", Bench.state(bench), "'12' 12 0 18 0 0 0 0 0 2 2 4 0 0");
    }

    private static void readRefuses() {
        Radixbench bench = Bench.typed("7");
        bench.put(0, 3, 4);
        String before = Bench.state(bench);
        for (int cell : Bench.NO_CELLS) {
            Due.outside("7 cell " + cell, () -> bench.read(cell, 10, 0));
            Due.outside("7 the cell first " + cell, () -> bench.read(cell, 1, 0));
            Due.outside("7 the cell first " + cell, () -> bench.read(cell, 10, 4));
        }
        for (int radix : Bench.NO_RADIXES) {
            Due.illegal("7 radix " + radix, () -> bench.read(0, radix, 0));
        }
        for (int kind : Bench.NO_KINDS) {
            Due.illegal("7 kind " + kind, () -> bench.read(0, 10, kind));
        }
        Due.is("7 unchanged", Bench.state(bench), before);
        bench.clear();
        Due.illegal("7 refused, no fault", () -> bench.read(0, 37, 0));
        Due.is("7 no fault", bench.bench(1), 0);
    }

    private static void isWritten(long cell, int radix, int kind, String want) {
        String what = "write " + cell + " by " + radix + " kind " + kind;
        Radixbench bench = Bench.typed("what+WAS-there");
        Bench.put(bench, 6, cell);
        Due.is(what + " written", bench.written(6, radix, kind), want);
        Due.is(what + " asked alone", bench.text(), "what+WAS-there");
        Due.is(what + " asked alone", bench.bench(3), 0);
        Due.is(what, bench.write(6, radix, kind), want.length());
        Due.is(what + " text", bench.text(), want);
        Due.is(what + " stays", Bench.cell(bench, 6), cell);
        Due.is(what + " counted", bench.bench(3), 1);
    }

    private static void write() {
        for (int kind = 0; kind <= 3; kind++) {
            isWritten(0, 2, kind, "0");
            isWritten(0, 36, kind, "0");
            isWritten(1, 10, kind, "1");
            isWritten(100, 10, kind, "100");
            isWritten(1295, 36, kind, "zz");
            isWritten(1296, 36, kind, "100");
            isWritten(35, 36, kind, "z");
            isWritten(2147483647L, 16, kind, "7fffffff");
        }
        isWritten(-1, 10, 0, "-1");
        isWritten(-1, 10, 1, "4294967295");
        isWritten(-1, 10, 2, "-1");
        isWritten(-1, 10, 3, "18446744073709551615");
        isWritten(-255, 16, 0, "-ff");
        isWritten(-255, 16, 2, "-ff");
        isWritten(1L << 32, 10, 0, "0");
        isWritten(1L << 32, 10, 1, "0");
        isWritten(1L << 32, 10, 2, "4294967296");
        isWritten(1L << 32, 10, 3, "4294967296");
        isWritten(2147483648L, 10, 0, "-2147483648");
        isWritten(2147483648L, 10, 1, "2147483648");
        isWritten(2147483648L, 2, 0, "-10000000000000000000000000000000");
        isWritten(Long.MIN_VALUE, 10, 2, "-9223372036854775808");
        isWritten(Long.MIN_VALUE, 10, 3, "9223372036854775808");
        isWritten(Long.MIN_VALUE, 2, 2, "-1" + ZEROS.substring(0, 63));
        isWritten(Long.MIN_VALUE, 2, 3, "1" + ZEROS.substring(0, 63));
        isWritten(Long.MIN_VALUE, 10, 0, "0");
        isWritten(Long.MAX_VALUE, 36, 2, "1y2p0ij32e8e7");
        isWritten(-1, 36, 3, "3w5e11264sgsf");
        isWritten(-1, 3, 3, "11112220022122120101211020120210210211220");
        isWritten(-1, 35, 3, Long.toUnsignedString(-1, 35));
    }

    private static void writeCounts() {
        Radixbench bench = Bench.of(9, 10);
        bench.write(0, 10, 0);
        bench.bits(1, 0, true);
        bench.write(1, 10, 3);
        Due.is("8 counts", Bench.state(bench), "'10' 9 10 0 0 0 0 0 0 2 0 0 3 0");
    }

    private static void writeRefuses() {
        Radixbench bench = Bench.typed("7");
        String before = Bench.state(bench);
        for (int cell : Bench.NO_CELLS) {
            Due.outside("8 cell " + cell, () -> bench.write(cell, 10, 0));
            Due.outside("8 the cell first " + cell, () -> bench.write(cell, 37, 0));
            Due.outside("8 the cell first " + cell, () -> bench.write(cell, 10, -1));
        }
        for (int radix : Bench.NO_RADIXES) {
            Due.illegal("8 radix " + radix, () -> bench.write(0, radix, 0));
        }
        for (int kind : Bench.NO_KINDS) {
            Due.illegal("8 kind " + kind, () -> bench.write(0, 10, kind));
        }
        Due.is("8 unchanged", Bench.state(bench), before);
    }

    private static void areBits(long cell, int base, boolean isInt, String want) {
        String what = "bits of " + cell + " base " + base + " isInt " + isInt;
        Radixbench bench = Bench.typed("what-was");
        Bench.put(bench, 5, cell);
        Due.is(what, bench.bits(5, base, isInt), want.length());
        Due.is(what + " text", bench.text(), want);
        Due.is(what + " stays", Bench.cell(bench, 5), cell);
        Due.is(what + " counted", bench.bench(3), 1);
    }

    private static void bits() {
        for (int base = 0; base <= 2; base++) {
            areBits(0, base, false, "0");
            areBits(0, base, true, "0");
            areBits(1L << 32, base, true, "0");
        }
        areBits(10, 0, false, "1010");
        areBits(10, 1, false, "12");
        areBits(10, 2, false, "a");
        areBits(-1, 0, true, "11111111111111111111111111111111");
        areBits(-1, 1, true, "37777777777");
        areBits(-1, 2, true, "ffffffff");
        areBits(-1, 0, false, "1111111111111111111111111111111111111111111111111111111111111111");
        areBits(-1, 1, false, "1777777777777777777777");
        areBits(-1, 2, false, "ffffffffffffffff");
        areBits(Long.MIN_VALUE, 2, false, "8000000000000000");
        areBits(0x123456789abcdefL, 2, false, "123456789abcdef");
        areBits(0x123456789abcdefL, 2, true, "89abcdef");
    }

    private static void bitsRefuse() {
        Radixbench bench = Bench.typed("7");
        String before = Bench.state(bench);
        for (int cell : Bench.NO_CELLS) {
            Due.outside("9 cell " + cell, () -> bench.bits(cell, 0, true));
            Due.outside("9 the cell first " + cell, () -> bench.bits(cell, 3, false));
        }
        for (int base : new int[] {-1, 3, 8, 16, Integer.MIN_VALUE, Integer.MAX_VALUE}) {
            Due.illegal("9 base " + base, () -> bench.bits(0, base, false));
            Due.illegal("9 base of the int " + base, () -> bench.bits(0, base, true));
        }
        Due.is("9 unchanged", Bench.state(bench), before);
    }
}
