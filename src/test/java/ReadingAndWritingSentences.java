import java.math.BigInteger;
import java.util.Locale;

/** The sentences of the promises 7 to 9: read, write, bits. */
final class ReadingAndWritingSentences {
    private static final long MIN = Long.MIN_VALUE;
    private static final String NO_RADIX_OR_KIND =
        "`IllegalArgumentException` if radix is not 2 to 36, or kind not 0 to 3";

    private ReadingAndWritingSentences() {
    }

    static void hold() {
        Sentence.holds(7, "Reads TEXT as a number of a KIND into a CELL.", ReadingAndWritingSentences::readEdges);
        Sentence.holds(7, "Returns 1 if it is one (the CELL is set to that)", ReadingAndWritingSentences::readANumber);
        Sentence.holds(7, "otherwise 0 (a FAULT; the CELL stays)", ReadingAndWritingSentences::readNoNumber);
        Sentence.holds(7, "`IndexOutOfBoundsException` if there is no such CELL",
            () -> Range.ofCells((bench, cell) -> bench.read(cell, 10, 0)));
        Sentence.holds(7, NO_RADIX_OR_KIND, () -> {
            Range.ofRadixes((bench, radix) -> bench.read(0, radix, 0));
            Range.ofKinds((bench, kind) -> bench.read(0, 10, kind));
        });

        Sentence.holds(8, "WRITES a CELL, or its INT, as a number of a KIND.", ReadingAndWritingSentences::writeEdges);
        Sentence.holds(8, "the KIND (0 and 1: of its INT)", ReadingAndWritingSentences::writeInts);
        Sentence.holds(8, "Returns how many signs TEXT has then.", ReadingAndWritingSentences::writeAnswers);
        Sentence.holds(8, "`IndexOutOfBoundsException` if there is no such CELL",
            () -> Range.ofCells((bench, cell) -> bench.write(cell, 10, 0)));
        Sentence.holds(8, NO_RADIX_OR_KIND, () -> {
            Range.ofRadixes((bench, radix) -> bench.write(0, radix, 0));
            Range.ofKinds((bench, kind) -> bench.write(0, 10, kind));
        });

        Sentence.holds(9, "WRITES the bits: as an unsigned number.", ReadingAndWritingSentences::bitsWithoutASign);
        Sentence.holds(9, "0 by the RADIX 2, 1 by 8, 2 by 16", ReadingAndWritingSentences::bitsByBase);
        Sentence.holds(9, "whether its INT alone", ReadingAndWritingSentences::bitsOfInts);
        Sentence.holds(9, "Returns how many signs TEXT has then.", ReadingAndWritingSentences::bitsAnswer);
        Sentence.holds(9, "`IndexOutOfBoundsException` if there is no such CELL", () -> {
            Range.ofCells((bench, cell) -> bench.bits(cell, 0, false));
            Range.ofCells((bench, cell) -> bench.bits(cell, 2, true));
        });
        Sentence.holds(9, "`IllegalArgumentException` if base is not 0 to 2", () -> {
            Range.illegal(0, 2, (bench, base) -> bench.bits(0, base, false));
            Range.illegal(0, 2, (bench, base) -> bench.bits(0, base, true));
        });
    }

    private static Radixbench read(String text, int radix, int kind, int want) {
        Radixbench bench = Bench.of(0, 0, 0, 0, 0, 77L << 32);
        Bench.type(bench, text);
        Due.is("'" + text + "' by " + radix + ", kind " + kind, bench.read(5, radix, kind), want);
        return bench;
    }

    private static void isRead(String text, int radix, int kind, long want) {
        Due.is("'" + text + "' is read as", Bench.cell(read(text, radix, kind, 1), 5), want);
    }

    /** The least and the greatest number of every KIND in every RADIX, in small letters and in great ones. */
    private static void readEdges() {
        long[] least = {Integer.MIN_VALUE, 0, MIN, 0};
        long[] greatest = {Integer.MAX_VALUE, -1, Long.MAX_VALUE, -1};
        for (int radix = 2; radix <= 36; radix++) {
            for (int kind = 0; kind < 4; kind++) {
                int bits = (kind < 2 ? 32 : 64) - (kind % 2 == 0 ? 1 : 0);
                BigInteger beyond = BigInteger.ONE.shiftLeft(bits);
                String most = beyond.subtract(BigInteger.ONE).toString(radix);
                String fewest = kind % 2 == 0 ? beyond.negate().toString(radix) : "0";
                isRead(most, radix, kind, greatest[kind]);
                isRead(most.toUpperCase(Locale.ROOT), radix, kind, greatest[kind]);
                isRead(fewest, radix, kind, least[kind]);
                isRead(fewest.toUpperCase(Locale.ROOT), radix, kind, least[kind]);
            }
        }
        for (int kind = 0; kind < 4; kind += 2) {
            isRead("-1", 2, kind, -1);
            isRead(Long.toString(least[kind] + 1), 10, kind, least[kind] + 1);
        }
    }

    private static void readANumber() {
        for (int kind = 0; kind < 4; kind++) {
            Radixbench bench = read("0", 2, kind, 1);
            Due.is("0, HIGH too", Bench.state(bench), "'0' 0 0 0 0 0 0 0 0 1 0 1 0 0");
            bench = read("+" + "0".repeat(68) + "1", 36, kind, 1);
            Due.is("1 of 70 signs", Bench.cell(bench, 5), 1L);
            Due.is("no FAULT", bench.bench(1), 0);
            Due.is("the text stays", bench.bench(0), 70);
            Due.is("the same again", bench.read(5, 36, kind), 1);
        }
    }

    private static void readNoNumber() {
        for (int kind = 0; kind < 4; kind++) {
            for (String text : new String[] {"", "+", "-", "a", "1a", "1-", "z".repeat(70), "1" + "0".repeat(69)}) {
                Radixbench bench = read(text, 10, kind, 0);
                Due.is("the cell stays", Bench.cell(bench, 5), 77L << 32);
                Due.is("a FAULT", bench.bench(1), 1);
                Due.is("the text stays", bench.text(), text);
                Due.is("another time", bench.read(0, 10, kind), 0);
                Due.is("another FAULT", bench.bench(1), 2);
            }
        }
        String[] beyond = {"2147483648", "4294967296", "9223372036854775808", "18446744073709551616"};
        for (int kind = 0; kind < 4; kind++) {
            Radixbench bench = read(beyond[kind], 10, kind, 0);
            Due.is("beyond the range, the cell stays", Bench.cell(bench, 5), 77L << 32);
            Due.is("beyond the range, a FAULT", bench.bench(1), 1);
        }
        for (int kind = 0; kind < 4; kind += 2) {
            String below = kind == 0 ? "-2147483649" : "-9223372036854775809";
            Due.is("below the range", Bench.cell(read(below, 10, kind, 0), 5), 77L << 32);
        }
    }

    private static void written(long number, int radix, int kind, String want) {
        Radixbench bench = Bench.of(1, 1, 1, 1, 1, 1, 1, number);
        Bench.type(bench, "9".repeat(70));
        int size = bench.write(7, radix, kind);
        Due.is(number + " by " + radix + ", kind " + kind, bench.text(), want);
        Due.is("its signs", size, want.length());
        Due.is("the cell stays", Bench.cell(bench, 7), number);
        Due.is("counted", bench.bench(3), 1);
    }

    /** The least and the greatest number of every KIND in every RADIX. */
    private static void writeEdges() {
        long[] edges = {0, 1, -1, MIN, Long.MAX_VALUE, Integer.MIN_VALUE, Integer.MAX_VALUE, 0x80000000L, 1L << 32};
        for (int radix = 2; radix <= 36; radix++) {
            for (long edge : edges) {
                written(edge, radix, 0, Integer.toString((int) edge, radix));
                written(edge, radix, 1, Integer.toUnsignedString((int) edge, radix));
                written(edge, radix, 2, Long.toString(edge, radix));
                written(edge, radix, 3, Long.toUnsignedString(edge, radix));
            }
        }
    }

    private static void writeInts() {
        written((7L << 32) + 5, 10, 0, "5");
        written((7L << 32) + 5, 10, 1, "5");
        written((7L << 32) + 5, 10, 2, "30064771077");
        written((7L << 32) + 5, 10, 3, "30064771077");
        written(-1L << 32, 10, 0, "0");
        written(-1L << 32, 10, 1, "0");
        written(0xFFFFFFFFL, 10, 0, "-1");
        written(0xFFFFFFFFL, 10, 1, "4294967295");
        written(0xFFFFFFFFL, 10, 2, "4294967295");
        written(-1, 10, 1, "4294967295");
        written(MIN + 0x80000000L, 10, 0, "-2147483648");
        written(MIN + 0x80000000L, 10, 1, "2147483648");
    }

    private static void writeAnswers() {
        Radixbench bench = Bench.of(0, MIN, -1);
        Bench.type(bench, "z".repeat(70));
        Due.is("the fewest", bench.write(0, 36, 0), 1);
        Due.is("the most", bench.write(1, 2, 2), 65);
        Due.is("those told", bench.text().length(), 65);
        Due.is("the most of an INT", bench.write(2, 2, 1), 32);
        Due.is("the most without a sign", bench.write(1, 2, 3), 64);
        Due.is("with \"-\"", bench.write(2, 36, 2), 2);
    }

    private static void bits(long number, int base, boolean isInt, String want) {
        Radixbench bench = Bench.of(number);
        Bench.type(bench, "-".repeat(70));
        int size = bench.bits(0, base, isInt);
        Due.is("bits of " + number + ", base " + base + ", isInt " + isInt, bench.text(), want);
        Due.is("its signs", size, want.length());
        Due.is("the cell stays", Bench.cell(bench, 0), number);
        Due.is("counted as written", bench.bench(3), 1);
        Due.is("not as read", bench.bench(2), 0);
    }

    private static void bitsWithoutASign() {
        bits(0, 0, false, "0");
        bits(1, 0, false, "1");
        bits(-1, 0, false, "1".repeat(64));
        bits(MIN, 0, false, "1" + "0".repeat(63));
        bits(Long.MAX_VALUE, 0, false, "1".repeat(63));
        bits(-1, 0, true, "1".repeat(32));
        bits(0x80000000L, 0, true, "1" + "0".repeat(31));
    }

    private static void bitsByBase() {
        bits(-1, 0, false, "1".repeat(64));
        bits(-1, 1, false, "1" + "7".repeat(21));
        bits(-1, 2, false, "f".repeat(16));
        bits(16, 0, false, "10000");
        bits(16, 1, false, "20");
        bits(16, 2, false, "10");
        for (int base = 0; base <= 2; base++) {
            bits(0, base, false, "0");
            bits(0, base, true, "0");
            bits(1, base, true, "1");
        }
    }

    private static void bitsOfInts() {
        bits(0x123456789ABCDEF0L, 2, true, "9abcdef0");
        bits(0x123456789ABCDEF0L, 2, false, "123456789abcdef0");
        bits(-1, 1, true, "3" + "7".repeat(10));
        bits(-1, 2, true, "f".repeat(8));
        bits(-1L << 32, 2, true, "0");
        bits(0xFFFFFFFFL, 2, false, "f".repeat(8));
    }

    private static void bitsAnswer() {
        Radixbench bench = Bench.of(0, -1);
        Bench.type(bench, "z".repeat(70));
        Due.is("the fewest", bench.bits(0, 0, false), 1);
        Due.is("the most", bench.bits(1, 0, false), 64);
        Due.is("those told", bench.text().length(), 64);
        Due.is("the most of an INT", bench.bits(1, 0, true), 32);
        Due.is("by 8", bench.bits(1, 1, false), 22);
        Due.is("an INT by 8", bench.bits(1, 1, true), 11);
    }
}
