import java.math.BigInteger;
import java.util.ArrayList;
import java.util.Arrays;
import java.util.List;

/** The sentences of the promises 24 to 29: isNumber, would, written, same, isSound, digest. */
final class WouldBeSentences {
    private static final long MIN = Long.MIN_VALUE;
    private static final long MAX = Long.MAX_VALUE;
    private static final long LOW_BITS = 0xFFFFFFFFL;
    private static final String NO_RADIX_OR_KIND =
        "`IllegalArgumentException` if radix is not 2 to 36, or kind not 0 to 3";
    private static final long[][] EDGES = {
        {}, {-1}, {0, 0, 0, 0, 0, 0, 0, -1}, {-1, -1, -1, -1, -1, -1, -1, -1}, {MIN, MAX, MIN, -1, 1, MIN, 0, -1},
        {MIN, MIN, 2, 3, MAX, 0x80000000L, Integer.MIN_VALUE, LOW_BITS}, {1, MIN, MAX, -2, 1L << 32, 10, -1, 5}};

    // What digest() takes in of a new bench, part by part.
    private static final long[] CELL_OF_0 = {0, 0, 0, 64, 64, 0, 0, 32, 32, 0};
    private static final long[] COUNTS_OF_NEW = {0, 0, 0, 0, 0};
    private static final long[] KINDS_OF_NEW = {0, 0, 1, 0, 0, 1, 0, 0, 1, 0, 0, 1};

    private WouldBeSentences() {
    }

    static void hold() {
        holdOfOneText();
        holdOfAll();
    }

    private static void holdOfOneText() {
        Sentence.holds(24, "Returns whether TEXT is a number of that KIND.", WouldBeSentences::isNumber);
        Sentence.holds(24, NO_RADIX_OR_KIND, () -> {
            Range.ofRadixes((bench, radix) -> bench.isNumber(radix, 0));
            Range.ofKinds((bench, kind) -> bench.isNumber(10, kind));
        });
        Sentence.holds(25, "whether HIGH, otherwise LOW", WouldBeSentences::wouldHalves);
        Sentence.holds(25, "Returns of the CELL that would be set to TEXT as a number of that KIND",
            WouldBeSentences::wouldBeSet);
        Sentence.holds(25, "0, if it is none", WouldBeSentences::wouldOfNone);
        Sentence.holds(25, NO_RADIX_OR_KIND, () -> {
            Range.ofRadixes((bench, radix) -> bench.would(radix, 0, false));
            Range.ofKinds((bench, kind) -> bench.would(10, kind, true));
        });
        Sentence.holds(26, "Returns how it would be written.", WouldBeSentences::written);
        Sentence.holds(26, "`IndexOutOfBoundsException` if there is no such CELL",
            () -> Range.ofCells((bench, cell) -> bench.written(cell, 10, 0)));
        Sentence.holds(26, NO_RADIX_OR_KIND, () -> {
            Range.ofRadixes((bench, radix) -> bench.written(0, radix, 0));
            Range.ofKinds((bench, kind) -> bench.written(0, 10, kind));
        });
        Sentence.holds(27, "Returns the set of the CELLS (the sum of 2^k) that TEXT, read so, would be",
            WouldBeSentences::sameCells);
        Sentence.holds(27, "(their INTS, if the KIND is 0 or 1)", WouldBeSentences::sameInts);
        Sentence.holds(27, "0, if it is no number", WouldBeSentences::sameAsNone);
        Sentence.holds(27, NO_RADIX_OR_KIND, () -> {
            Range.ofRadixes((bench, radix) -> bench.same(radix, 0));
            Range.ofKinds((bench, kind) -> bench.same(10, kind));
        });
    }

    private static void holdOfAll() {
        Sentence.holds(28, "what would be written is read back as it is (of the KINDS 0 and 1: its INT)",
            WouldBeSentences::readBack);
        Sentence.holds(28, "divided without signs by the next one, if that is not 0, is quotient times that and the"
            + " rest, which is less", WouldBeSentences::dividedByTheNext);
        Sentence.holds(28, "turned by some places and back, and turned about twice, it is the same",
            WouldBeSentences::turnedBack);
        Sentence.holds(28, "the 1 bits of a CELL are those of both halves", WouldBeSentences::bitsOfBothHalves);
        Sentence.holds(29, "A number d starts with 8111", WouldBeSentences::digestOfNew);
        Sentence.holds(29, "which wraps around as a 64-bit integer", WouldBeSentences::digestWrapsAround);
        Sentence.holds(29, "bench() of 0 to 4", WouldBeSentences::digestOfCounts);
        Sentence.holds(29, "CELL by CELL high(), low(), the four of count() with isInt false, then the four with true",
            WouldBeSentences::digestOfCells);
        Sentence.holds(29, "each sign of TEXT as digit() by 36 (NONE for \"-\" and \"+\")",
            WouldBeSentences::digestOfSigns);
        Sentence.holds(29, "for each KIND would() by 10, HIGH, then LOW", WouldBeSentences::digestOfWould);
        Sentence.holds(29, "how many signs written() of the CELL 0 by 7 and that KIND has",
            WouldBeSentences::digestOfWritten);
        Sentence.holds(29, "same() by the RADIX 16 and the KIND 2", WouldBeSentences::digestOfSame);
        Sentence.holds(29, "isSound() (1 or 0)", WouldBeSentences::digestOfSound);
    }

    // ---- of one text

    private static void isNumber() {
        String[] texts = {
            "", "+", "-", "0", "-0", "+0", "2147483647", "2147483648", "-2147483648", "-2147483649", "4294967295",
            "4294967296", "9223372036854775807", "9223372036854775808", "-9223372036854775808", "-9223372036854775809",
            "18446744073709551615", "18446744073709551616", "-1", "a", "1-"};
        String[] wants = {
            "none", "none", "none", "0123", "02", "0123", "0123", "123", "02", "2", "123", "23", "23", "3", "2", "none",
            "3", "none", "02", "none", "none"};
        for (int k = 0; k < texts.length; k++) {
            Radixbench bench = Bench.typed(texts[k]);
            for (int kind = 0; kind < 4; kind++) {
                boolean want = wants[k].indexOf('0' + kind) >= 0;
                Due.is("'" + texts[k] + "', kind " + kind, bench.isNumber(10, kind), want);
            }
        }
        Due.is("by the least radix", Bench.typed("2").isNumber(2, 0), false);
        Due.is("by the greatest radix", Bench.typed("Z").isNumber(36, 0), true);
    }

    private static void would(String text, int kind, int high, int low) {
        Radixbench bench = Bench.typed(text);
        Due.is("HIGH of '" + text + "', kind " + kind, bench.would(16, kind, true), high);
        Due.is("LOW of '" + text + "', kind " + kind, bench.would(16, kind, false), low);
    }

    private static void wouldHalves() {
        would("100000002", 2, 1, 2);
        would("100000002", 3, 1, 2);
        would("8000000000000000", 3, Integer.MIN_VALUE, 0);
        would("80000000", 2, 0, Integer.MIN_VALUE);
        would("ffffffff", 3, 0, -1);
        would("-1", 2, -1, -1);
        would("-100000000", 2, -1, 0);
    }

    private static void wouldBeSet() {
        String[] texts = {"0", "+7fffffff", "-80000000", "80000000", "FFFFFFFF", "7fffffffffffffff",
            "-8000000000000000", "ffffffffffffffff"};
        for (String text : texts) {
            for (int kind = 0; kind < 4; kind++) {
                Radixbench bench = Bench.typed(text);
                bench.put(4, 9, 9);
                int high = bench.would(16, kind, true);
                int low = bench.would(16, kind, false);
                Due.is("LOW stays", bench.low(4), 9);
                boolean isRead = bench.read(4, 16, kind) == 1;
                Due.is("HIGH of '" + text + "', kind " + kind, high, isRead ? bench.high(4) : 0);
                Due.is("LOW of '" + text + "', kind " + kind, low, isRead ? bench.low(4) : 0);
            }
        }
        would("ffffffff", 1, -1, -1);
        would("80000000", 1, -1, Integer.MIN_VALUE);
        would("-80000000", 0, -1, Integer.MIN_VALUE);
        would("7fffffff", 0, 0, Integer.MAX_VALUE);
    }

    private static void wouldOfNone() {
        for (String text : new String[] {"", "+", "-", "g", "1-", "10000000000000000", "f".repeat(70)}) {
            for (int kind = 0; kind < 4; kind++) {
                would(text, kind, 0, 0);
            }
        }
        would("80000000", 0, 0, 0);
        would("100000001", 1, 0, 0);
        would("8000000000000001", 2, 0, 0);
        would("-8000000000000001", 2, 0, 0);
        would("-1", 1, 0, 0);
        would("-1", 3, 0, 0);
    }

    private static void written() {
        long[] edges = {0, 1, -1, MIN, MAX, 0x80000000L, LOW_BITS, 1L << 32, Integer.MIN_VALUE};
        for (int radix = 2; radix <= 36; radix++) {
            for (long edge : edges) {
                Radixbench bench = Bench.of(0, 0, 0, 0, 0, 0, 0, edge);
                String name = edge + " by " + radix;
                Due.is(name + ", kind 0", bench.written(7, radix, 0), Integer.toString((int) edge, radix));
                Due.is(name + ", kind 1", bench.written(7, radix, 1), Integer.toUnsignedString((int) edge, radix));
                Due.is(name + ", kind 2", bench.written(7, radix, 2), Long.toString(edge, radix));
                Due.is(name + ", kind 3", bench.written(7, radix, 3), Long.toUnsignedString(edge, radix));
            }
        }
        Radixbench bench = Bench.typed("z".repeat(70));
        Due.is("with a full text", bench.written(0, 2, 2), "0");
        Due.is("which stays", bench.text(), "z".repeat(70));
    }

    private static void sameCells() {
        for (int cell = 0; cell < 8; cell++) {
            Radixbench bench = Bench.typed("-1");
            bench.put(cell, -1, -1);
            Due.is("cell " + cell + " alone", bench.same(10, 2), 1 << cell);
            Bench.type(bench, "0");
            Due.is("all but cell " + cell, bench.same(10, 2), 255 - (1 << cell));
            Bench.type(bench, "18446744073709551615");
            Due.is("cell " + cell + " without a sign", bench.same(10, 3), 1 << cell);
        }
        Radixbench bench = Bench.typed("0");
        Due.is("all", bench.same(36, 3), 255);
        Bench.type(bench, "1");
        Due.is("none", bench.same(36, 3), 0);
        bench.put(0, 1, 0);
        Bench.type(bench, "0");
        Due.is("HIGH counts", bench.same(36, 2), 254);
    }

    private static void sameInts() {
        Radixbench bench = Bench.of(-1, LOW_BITS, (5L << 32) + LOW_BITS, 1, (1L << 32) + 1, MIN, 0, MAX);
        String[] texts = {"-1", "4294967295", "1", "0"};
        int[][] want = {{135, 0, 1, 0}, {0, 135, 2, 2}, {24, 24, 8, 8}, {96, 96, 64, 64}};
        for (int k = 0; k < texts.length; k++) {
            Bench.type(bench, texts[k]);
            for (int kind = 0; kind < 4; kind++) {
                Due.is("'" + texts[k] + "', kind " + kind, bench.same(10, kind), want[k][kind]);
            }
        }
    }

    private static void sameAsNone() {
        Radixbench bench = new Radixbench();
        for (String text : new String[] {"", "+", "-", "g", "0-", "10000000000000000"}) {
            Bench.type(bench, text);
            for (int kind = 0; kind < 4; kind++) {
                Due.is("'" + text + "', kind " + kind, bench.same(16, kind), 0);
            }
        }
        Bench.type(bench, "100000000");
        Due.is("0 by a wrap-around, signed", bench.same(16, 0), 0);
        Due.is("0 by a wrap-around", bench.same(16, 1), 0);
        Bench.type(bench, "-0");
        Due.is("\"-\" without signs", bench.same(16, 1) + bench.same(16, 3), 0);
    }

    // ---- of all

    private static void isSound(Radixbench bench) {
        Due.is("sound: " + Bench.state(bench), bench.isSound(), true);
    }

    private static void readBack() {
        for (long[] row : EDGES) {
            Radixbench bench = Bench.of(row);
            isSound(bench);
            for (int radix = 2; radix <= 36; radix++) {
                for (int kind = 0; kind < 4; kind++) {
                    for (int cell = 0; cell < 8; cell++) {
                        readBack(bench, cell, radix, kind);
                    }
                }
            }
        }
    }

    private static void readBack(Radixbench bench, int cell, int radix, int kind) {
        String written = bench.written(cell, radix, kind);
        Radixbench other = Bench.typed(written);
        Due.is("'" + written + "' read", other.read(0, radix, kind), 1);
        long want = Bench.cell(bench, cell);
        Due.is("'" + written + "', kind " + kind, Bench.cell(other, 0), kind < 2 ? (int) want : want);
    }

    private static void dividedByTheNext() {
        for (long[] row : EDGES) {
            isSound(Bench.of(row));
            for (int cell = 0; cell < 8; cell++) {
                Radixbench bench = Bench.of(row);
                Radixbench other = Bench.of(row);
                int next = (cell + 1) % 8;
                long number = Bench.cell(bench, cell);
                long by = Bench.cell(bench, next);
                if (by != 0) {
                    boolean isRest = bench.divide(cell, next, false);
                    boolean isNone = other.rest(cell, next, false);
                    long rest = Bench.cell(other, cell);
                    Due.is(number + " by " + by, Bench.cell(bench, cell) * by + rest, number);
                    Due.is("the rest is less", other.compare(cell, next, true, false), -1);
                    Due.is("there is a rest", isRest, rest != 0);
                    Due.is("there is none", isNone, rest == 0);
                }
            }
        }
    }

    private static void turnedBack() {
        for (long[] row : EDGES) {
            Radixbench bench = Bench.of(row);
            isSound(bench);
            String before = Bench.state(bench);
            for (int places : new int[] {0, 1, 31, 32, 33, 63, 64, 65, Integer.MAX_VALUE}) {
                for (int cell = 0; cell < 8; cell++) {
                    bench.turn(cell, places, false);
                    bench.turn(cell, -places, false);
                    bench.about(cell, places % 2 == 0, false);
                    bench.about(cell, places % 2 == 0, false);
                }
                Due.is("by " + places, Bench.state(bench), before);
            }
        }
    }

    private static void bitsOfBothHalves() {
        for (long[] row : EDGES) {
            Radixbench bench = Bench.of(row);
            isSound(bench);
            for (int cell = 0; cell < 8; cell++) {
                int ones = Integer.bitCount(bench.high(cell)) + bench.count(cell, 0, true);
                Due.is("the 1 bits of " + cell, bench.count(cell, 0, false), ones);
            }
        }
    }

    // ---- the checksum

    /** d * 31 + v for each v, without a wrap-around. */
    static BigInteger sum(BigInteger before, long... values) {
        BigInteger d = before;
        for (long value : values) {
            d = d.multiply(BigInteger.valueOf(31)).add(BigInteger.valueOf(value));
        }
        return d;
    }

    private static BigInteger whole(long[] counts, long[][] cells, long[] signs, long[] kinds, long same) {
        BigInteger d = sum(BigInteger.valueOf(8111), counts);
        for (int cell = 0; cell < 8; cell++) {
            d = sum(d, cells[cell]);
        }
        return sum(sum(sum(d, signs), kinds), same, 1);
    }

    private static long[][] cellsOf0() {
        long[][] cells = new long[8][];
        Arrays.fill(cells, CELL_OF_0);
        return cells;
    }

    private static BigInteger ofNew() {
        return whole(COUNTS_OF_NEW, cellsOf0(), new long[0], KINDS_OF_NEW, 0);
    }

    private static void digestOfNew() {
        Due.is("of a new one", new Radixbench().digest(), ofNew().longValue());
    }

    private static void digestWrapsAround() {
        int below0 = 0;
        for (long high = 0; high < 20; high++) {
            Radixbench bench = Bench.of(high << 32, MIN, MAX, -1);
            BigInteger d = BigInteger.valueOf(8111);
            long wrapped = 8111;
            for (long value : taken(bench)) {
                d = sum(d, value);
                wrapped = wrapped * 31 + value;
            }
            below0 += wrapped < 0 ? 1 : 0;
            Due.is("64 bits are too few", d.bitLength() > 64, true);
            Due.is("what goes beyond them is lost", d.longValue(), wrapped);
            Due.is("the checksum", bench.digest(), wrapped);
        }
        Due.is("some are below 0, some are not", below0 > 0 && below0 < 20, true);
    }

    /** What digest() takes in of a bench with an empty text, as the bench itself answers. */
    private static List<Integer> taken(Radixbench bench) {
        List<Integer> taken = new ArrayList<>();
        for (int what = 0; what < 5; what++) {
            taken.add(bench.bench(what));
        }
        for (int cell = 0; cell < 8; cell++) {
            taken.add(bench.high(cell));
            taken.add(bench.low(cell));
            for (int k = 0; k < 8; k++) {
                taken.add(bench.count(cell, k % 4, k > 3));
            }
        }
        for (int kind = 0; kind < 4; kind++) {
            taken.addAll(List.of(0, 0, bench.written(0, 7, kind).length()));
        }
        taken.addAll(List.of(0, 1));
        return taken;
    }

    private static void digestOfCounts() {
        Radixbench bench = new Radixbench();
        for (int often = 0; often < 7; often++) {
            bench.read(0, 2 + often, often % 4);
            bench.knock();
        }
        Bench.type(bench, "0");
        bench.read(0, 10, 0);
        bench.read(0, 10, 0);
        for (int often = 0; often < 4; often++) {
            bench.bits(0, 0, false);
        }
        long[] counts = {1, 7, 9, 4, 7};
        BigInteger d = whole(counts, cellsOf0(), new long[] {0}, KINDS_OF_NEW, 255);
        Due.is("signs, FAULTS, read, written, knocked", bench.digest(), d.longValue());
    }

    private static void digestOfCells() {
        long[][] cells = cellsOf0();
        Radixbench bench = new Radixbench();
        for (int cell = 1; cell < 8; cell++) {
            bench.put(cell, -cell, 1 << cell);
            long ones = Integer.bitCount(-cell);
            cells[cell] = new long[] {-cell, 1 << cell, ones + 1, 0, cell, -1, 1, 31 - cell, cell, 1};
        }
        BigInteger d = whole(COUNTS_OF_NEW, cells, new long[0], KINDS_OF_NEW, 0);
        Due.is("eight cells", bench.digest(), d.longValue());
        bench.put(7, 0, -1);
        cells[7] = new long[] {0, -1, 32, 32, 0, 1, 32, 0, 0, -1};
        d = whole(COUNTS_OF_NEW, cells, new long[0], KINDS_OF_NEW, 0);
        Due.is("the last one with other signs", bench.digest(), d.longValue());
    }

    private static void digestOfSigns() {
        Radixbench bench = Bench.typed("+0aAzZ9-");
        long[] counts = {8, 0, 0, 0, 0};
        BigInteger d = whole(counts, cellsOf0(), new long[] {-1, 0, 10, 10, 35, 35, 9, -1}, KINDS_OF_NEW, 0);
        Due.is("signs of every sort", bench.digest(), d.longValue());
        Bench.type(bench, "z".repeat(70));
        long[] signs = new long[70];
        Arrays.fill(signs, 35);
        d = whole(new long[] {70, 0, 0, 0, 0}, cellsOf0(), signs, KINDS_OF_NEW, 0);
        Due.is("70 signs", bench.digest(), d.longValue());
    }

    private static void digestOfWould() {
        Radixbench bench = Bench.typed("3000000000");
        int low = (int) 3000000000L;
        long[] kinds = {0, 0, 1, -1, low, 1, 0, low, 1, 0, low, 1};
        long[] signs = {3, 0, 0, 0, 0, 0, 0, 0, 0, 0};
        BigInteger d = whole(new long[] {10, 0, 0, 0, 0}, cellsOf0(), signs, kinds, 0);
        Due.is("each kind", bench.digest(), d.longValue());
        Bench.type(bench, "-2");
        kinds = new long[] {-1, -2, 1, 0, 0, 1, -1, -2, 1, 0, 0, 1};
        d = whole(new long[] {2, 0, 0, 0, 0}, cellsOf0(), new long[] {-1, 2}, kinds, 0);
        Due.is("0 of no number", bench.digest(), d.longValue());
    }

    private static void digestOfWritten() {
        Radixbench bench = Bench.of(-1);
        long[][] cells = cellsOf0();
        cells[0] = new long[] {-1, -1, 64, 0, 0, -1, 32, 0, 0, -1};
        long[] kinds = {0, 0, 2, 0, 0, 12, 0, 0, 2, 0, 0, 23};
        Due.is("all bits of an INT by 7", Integer.toUnsignedString(-1, 7).length(), 12);
        Due.is("all bits by 7", Long.toUnsignedString(-1, 7).length(), 23);
        BigInteger d = whole(COUNTS_OF_NEW, cells, new long[0], kinds, 0);
        Due.is("of the first cell", bench.digest(), d.longValue());
    }

    private static void digestOfSame() {
        Radixbench bench = Bench.of(0, 0, 0, 0, 0, 0, 0, 16);
        Bench.type(bench, "10");
        long[][] cells = cellsOf0();
        cells[7] = new long[] {0, 16, 1, 59, 4, 1, 1, 27, 4, 1};
        long[] kinds = {0, 10, 1, 0, 10, 1, 0, 10, 1, 0, 10, 1};
        BigInteger d = whole(new long[] {2, 0, 0, 0, 0}, cells, new long[] {1, 0}, kinds, 128);
        Due.is("by 16", bench.digest(), d.longValue());
        Bench.type(bench, "-0");
        kinds = KINDS_OF_NEW;
        d = whole(new long[] {2, 0, 0, 0, 0}, cells, new long[] {-1, 0}, kinds, 127);
        Due.is("with a sign", bench.digest(), d.longValue());
        bench.put(7, 1, 0);
        cells[7] = new long[] {1, 0, 1, 31, 32, 1, 0, 32, 32, 0};
        d = whole(new long[] {2, 0, 0, 0, 0}, cells, new long[] {-1, 0}, kinds, 127);
        Due.is("of 64 bits", bench.digest(), d.longValue());
    }

    private static void digestOfSound() {
        for (long[] row : EDGES) {
            isSound(Bench.of(row));
        }
        BigInteger d = sum(BigInteger.valueOf(8111), COUNTS_OF_NEW);
        for (int cell = 0; cell < 8; cell++) {
            d = sum(d, CELL_OF_0);
        }
        d = sum(sum(d, KINDS_OF_NEW), 0);
        Due.is("1 at the end", new Radixbench().digest() - d.longValue() * 31, 1L);
    }
}
