/** The sentences of the promises 17 to 23: high, low, count, compare, text, digit, bench. */
final class AskedSentences {
    private static final long MIN = Long.MIN_VALUE;
    private static final long MAX = Long.MAX_VALUE;
    private static final long LOW_BITS = 0xFFFFFFFFL;
    private static final String NO_CELL = "`IndexOutOfBoundsException` if there is no such CELL";
    private static final int[] HALVES = {0, 1, -1, Integer.MIN_VALUE, Integer.MAX_VALUE};

    private AskedSentences() {
    }

    static void hold() {
        Sentence.holds(17, "Returns HIGH.", AskedSentences::highs);
        Sentence.holds(17, NO_CELL, () -> Range.ofCells(Radixbench::high));
        Sentence.holds(18, "Returns LOW.", AskedSentences::lows);
        Sentence.holds(18, NO_CELL, () -> Range.ofCells(Radixbench::low));

        Sentence.holds(19, "0 how many bits are 1", AskedSentences::ones);
        Sentence.holds(19, "1 how many 0 are ahead of the first 1 (all, if there is none)", AskedSentences::zerosAhead);
        Sentence.holds(19, "2 how many 0 behind the last 1 (all, if there is none)", AskedSentences::zerosBehind);
        Sentence.holds(19, "3 -1, 0 or 1 by the sign", AskedSentences::sign);
        Sentence.holds(19, "whether of its INT", AskedSentences::countsOfInts);
        Sentence.holds(19, NO_CELL, () -> {
            Range.ofCells((bench, cell) -> bench.count(cell, 0, false));
            Range.ofCells((bench, cell) -> bench.count(cell, 3, true));
        });
        Sentence.holds(19, "`IllegalArgumentException` if what is not 0 to 3", () -> {
            Range.illegal(0, 3, (bench, what) -> bench.count(0, what, false));
            Range.illegal(0, 3, (bench, what) -> bench.count(0, what, true));
        });

        Sentence.holds(20, "whether without signs", AskedSentences::withoutSigns);
        Sentence.holds(20, "whether of their INTS", AskedSentences::comparedInts);
        Sentence.holds(20, "Returns -1, 0 or 1: less, the same, more.", AskedSentences::compareAnswers);
        Sentence.holds(20, NO_CELL + ", of both", () -> {
            Range.ofCells((bench, cell) -> bench.compare(cell, 0, false, false));
            Range.ofCells((bench, cell) -> bench.compare(0, cell, true, true));
            Range.ofCells((bench, cell) -> bench.compare(cell, cell, false, true));
        });

        Sentence.holds(21, "Returns TEXT.", AskedSentences::texts);

        Sentence.holds(22, "a place of TEXT, from 0 on", AskedSentences::places);
        Sentence.holds(22, "Returns what the sign there is worth; NONE, if it is no DIGIT.", AskedSentences::worths);
        Sentence.holds(22, "`IndexOutOfBoundsException` if there is no such place", AskedSentences::noSuchPlace);
        Sentence.holds(22, "`IllegalArgumentException` if radix is not 2 to 36",
            () -> Range.ofRadixes((bench, radix) -> bench.digit(0, radix)));

        Sentence.holds(23, "0 how many signs TEXT has", AskedSentences::signsOfText);
        Sentence.holds(23, "1 FAULTS", AskedSentences::faults);
        Sentence.holds(23, "2 how often something was read (FAULTS, too)", AskedSentences::reads);
        Sentence.holds(23, "3 how often written (by bits(), too)", AskedSentences::writes);
        Sentence.holds(23, "4 how often knocked", AskedSentences::knocks);
        Sentence.holds(23, "`IllegalArgumentException` if what is not 0 to 4",
            () -> Range.illegal(0, 4, Radixbench::bench));
    }

    private static void highs() {
        Radixbench bench = new Radixbench();
        for (int cell = 0; cell < 8; cell++) {
            for (int high : HALVES) {
                bench.put(cell, high, ~high);
                Due.is("HIGH " + high + " of " + cell, bench.high(cell), high);
            }
        }
    }

    private static void lows() {
        Radixbench bench = new Radixbench();
        for (int cell = 0; cell < 8; cell++) {
            for (int low : HALVES) {
                bench.put(cell, ~low, low);
                Due.is("LOW " + low + " of " + cell, bench.low(cell), low);
            }
        }
    }

    private static void counted(long number, int what, int want, int wantOfInt) {
        Radixbench bench = Bench.of(number);
        Due.is("count of " + number + ", what " + what, bench.count(0, what, false), want);
        Due.is("count of the INT of " + number + ", what " + what, bench.count(0, what, true), wantOfInt);
    }

    private static void ones() {
        counted(0, 0, 0, 0);
        counted(-1, 0, 64, 32);
        counted(MIN, 0, 1, 0);
        counted(MAX, 0, 63, 32);
        counted(0x80000000L, 0, 1, 1);
        counted(1L << 32, 0, 1, 0);
    }

    private static void zerosAhead() {
        counted(0, 1, 64, 32);
        counted(1, 1, 63, 31);
        counted(-1, 1, 0, 0);
        counted(MIN, 1, 0, 32);
        counted(MAX, 1, 1, 0);
        counted(0x80000000L, 1, 32, 0);
        counted(1L << 32, 1, 31, 32);
    }

    private static void zerosBehind() {
        counted(0, 2, 64, 32);
        counted(1, 2, 0, 0);
        counted(-1, 2, 0, 0);
        counted(MIN, 2, 63, 32);
        counted(-2, 2, 1, 1);
        counted(0x80000000L, 2, 31, 31);
        counted(1L << 32, 2, 32, 32);
    }

    private static void sign() {
        counted(0, 3, 0, 0);
        counted(1, 3, 1, 1);
        counted(-1, 3, -1, -1);
        counted(MIN, 3, -1, 0);
        counted(MAX, 3, 1, -1);
        counted(0x80000000L, 3, 1, -1);
        counted(0x7FFFFFFFL, 3, 1, 1);
        counted(1L << 32, 3, 1, 0);
        counted(MIN + 1, 3, -1, 1);
    }

    private static void countsOfInts() {
        int[][] want = {{0, 32, 32, 0}, {1, 31, 0, 1}, {1, 0, 31, -1}, {32, 0, 0, -1}};
        long[] lows = {0, 1, 0x80000000L, LOW_BITS};
        for (int high : HALVES) {
            for (int k = 0; k < lows.length; k++) {
                Radixbench bench = new Radixbench();
                bench.put(0, high, (int) lows[k]);
                for (int what = 0; what < 4; what++) {
                    Due.is("LOW " + lows[k] + ", HIGH " + high, bench.count(0, what, true), want[k][what]);
                }
            }
        }
    }

    private static void compared(long one, long other, boolean isUnsigned, boolean isInt, int want) {
        Radixbench bench = Bench.of(0, 0, 0, 0, 0, 0, other, one);
        String name = one + " with " + other + ", isUnsigned " + isUnsigned + ", isInt " + isInt;
        Due.is(name, bench.compare(7, 6, isUnsigned, isInt), want);
        Due.is(name + ", the other way", bench.compare(6, 7, isUnsigned, isInt), -want);
    }

    private static void withoutSigns() {
        compared(-1, 1, true, false, 1);
        compared(-1, 1, false, false, -1);
        compared(MIN, MAX, true, false, 1);
        compared(MIN, MAX, false, false, -1);
        compared(-1, MIN, true, false, 1);
        compared(-1, MIN, false, false, 1);
        compared(0, -1, true, false, -1);
        compared(0, -1, false, false, 1);
        compared(LOW_BITS, 1, true, true, 1);
        compared(LOW_BITS, 1, false, true, -1);
        compared(0x80000000L, 0x7FFFFFFFL, true, true, 1);
        compared(0x80000000L, 0x7FFFFFFFL, false, true, -1);
    }

    private static void comparedInts() {
        for (boolean isUnsigned : new boolean[] {false, true}) {
            compared(1L << 32, 0, isUnsigned, true, 0);
            compared(1L << 32, 0, isUnsigned, false, 1);
            compared((1L << 32) + 1, 2, isUnsigned, true, -1);
            compared((1L << 32) + 1, 2, isUnsigned, false, 1);
            compared(-1, LOW_BITS, isUnsigned, true, 0);
            compared(MIN, 0, isUnsigned, true, 0);
        }
        compared(-1, LOW_BITS, false, false, -1);
        compared(-1, LOW_BITS, true, false, 1);
    }

    private static void compareAnswers() {
        for (int k = 0; k < 4; k++) {
            boolean isInt = k < 2;
            boolean isUnsigned = k % 2 == 0;
            compared(0, 0, isUnsigned, isInt, 0);
            compared(-1, -1, isUnsigned, isInt, 0);
            compared(MIN, MIN, isUnsigned, isInt, 0);
            compared(1000, 0, isUnsigned, isInt, 1);
            compared(0, Integer.MAX_VALUE, isUnsigned, isInt, -1);
            compared(-1, -2, isUnsigned, isInt, 1);
        }
        compared(MAX, MIN, false, false, 1);
        compared(MAX, -1, false, false, 1);
    }

    private static void texts() {
        for (String text : new String[] {"", "0", "-", "+", "aZ09-+", "z".repeat(70)}) {
            Radixbench bench = Bench.typed(text);
            Due.is("typed", bench.text(), text);
            Due.is("asked again", bench.text(), text);
        }
    }

    private static void places() {
        Radixbench bench = Bench.typed("0123456789".repeat(7));
        for (int at = 0; at < 70; at++) {
            Due.is("place " + at, bench.digit(at, 10), at % 10);
        }
        Due.is("a sign alone", Bench.typed("7").digit(0, 8), 7);
    }

    private static void worths() {
        Radixbench bench = Bench.typed("019aAzZ-+");
        int[] worths = {0, 1, 9, 10, 10, 35, 35};
        for (int radix = 2; radix <= 36; radix++) {
            for (int at = 0; at < worths.length; at++) {
                Due.is("place " + at + " by " + radix, bench.digit(at, radix), worths[at] < radix ? worths[at] : -1);
            }
            Due.is("\"-\" by " + radix, bench.digit(7, radix), -1);
            Due.is("\"+\" by " + radix, bench.digit(8, radix), -1);
        }
    }

    private static void noSuchPlace() {
        Range.outside(0, 1, (bench, at) -> bench.digit(at, 10));
        Due.outside("of an empty text", () -> new Radixbench().digit(0, 10));
        Radixbench full = Bench.typed("1".repeat(70));
        Due.is("the last of 70", full.digit(69, 10), 1);
        Due.outside("behind the last of 70", () -> full.digit(70, 10));
        full.erase();
        Due.outside("the erased one", () -> full.digit(69, 10));
        full.bits(0, 0, false);
        Due.outside("behind what is written", () -> full.digit(1, 10));
        full.clear();
        Due.outside("of a cleared text", () -> full.digit(0, 10));
    }

    private static void signsOfText() {
        Radixbench bench = new Radixbench();
        Due.is("of an empty one", bench.bench(0), 0);
        bench.type(36, false);
        Due.is("of one sign", bench.bench(0), 1);
        Bench.type(bench, "0".repeat(70));
        Due.is("of a full one", bench.bench(0), 70);
        Due.state("one more", () -> bench.type(0, false));
        Due.is("of a full one still", bench.bench(0), 70);
        bench.erase();
        Due.is("erased", bench.bench(0), 69);
        bench.write(0, 10, 2);
        Due.is("written", bench.bench(0), 1);
        bench.clear();
        Due.is("cleared", bench.bench(0), 0);
    }

    private static void counts(Radixbench bench, int what, int want) {
        for (int each = 1; each < 5; each++) {
            boolean isReadToo = what == 1 && each == 2;
            Due.is("bench " + each, bench.bench(each), each == what || isReadToo ? want : 0);
        }
    }

    private static void faults() {
        Radixbench bench = new Radixbench();
        counts(bench, 1, 0);
        bench.read(0, 10, 0);
        counts(bench, 1, 1);
        Bench.type(bench, "2147483648");
        bench.read(0, 10, 0);
        counts(bench, 1, 2);
        Due.outside("refused", () -> bench.read(8, 10, 0));
        Due.illegal("refused", () -> bench.read(0, 37, 0));
        Due.illegal("refused", () -> bench.read(0, 10, 4));
        bench.isNumber(10, 0);
        bench.same(10, 0);
        counts(bench, 1, 2);
        bench.read(0, 10, 1);
        Due.is("a number is none", bench.bench(1), 2);
        bench.clear();
        bench.read(0, 10, 1);
        Due.is("one more", bench.bench(1), 3);
    }

    private static void reads() {
        Radixbench bench = Bench.typed("1");
        counts(bench, 2, 0);
        bench.read(0, 10, 0);
        bench.read(0, 10, 0);
        counts(bench, 2, 2);
        Due.outside("refused", () -> bench.read(-1, 10, 0));
        Due.illegal("refused", () -> bench.read(0, 1, 0));
        Due.illegal("refused", () -> bench.read(0, 10, -1));
        bench.would(10, 0, false);
        counts(bench, 2, 2);
        bench.type(37, false);
        bench.read(0, 10, 0);
        Due.is("a FAULT, too", bench.bench(2), 3);
        Due.is("and is one", bench.bench(1), 1);
    }

    private static void writes() {
        Radixbench bench = new Radixbench();
        counts(bench, 3, 0);
        bench.write(0, 10, 0);
        counts(bench, 3, 1);
        bench.write(0, 10, 0);
        counts(bench, 3, 2);
        bench.bits(0, 0, false);
        bench.bits(0, 2, true);
        counts(bench, 3, 4);
        Due.outside("refused", () -> bench.write(8, 10, 0));
        Due.illegal("refused", () -> bench.write(0, 1, 0));
        Due.illegal("refused", () -> bench.write(0, 10, 4));
        Due.outside("refused", () -> bench.bits(-1, 0, false));
        Due.illegal("refused", () -> bench.bits(0, 3, false));
        bench.written(0, 10, 0);
        bench.digest();
        bench.type(1, false);
        bench.clear();
        counts(bench, 3, 4);
    }

    private static void knocks() {
        Radixbench bench = new Radixbench();
        counts(bench, 4, 0);
        bench.knock();
        counts(bench, 4, 1);
        for (int often = 2; often <= 400; often++) {
            bench.knock();
        }
        counts(bench, 4, 400);
    }
}
