import java.math.BigInteger;
import java.util.function.Consumer;

/** The sentences of "What it is" and of "Description", which bind every call. */
final class DescriptionSentences {
    private static final long MIN = Long.MIN_VALUE;
    private static final long MAX = Long.MAX_VALUE;
    private static final long INT_MIN = Integer.MIN_VALUE;
    private static final long INT_MAX = Integer.MAX_VALUE;
    private static final long LOW_BITS = 0xFFFFFFFFL;
    private static final String GREATS = "ABCDEFGHIJKLMNOPQRSTUVWXYZ";
    private static final String SMALLS = "abcdefghijklmnopqrstuvwxyz";

    private DescriptionSentences() {
    }

    static void hold() {
        Sentence.holds("What it is", "An object is used for at most 512 calls after it has been made",
            DescriptionSentences::the512thCall);
        String all = "Description";
        Sentence.holds(all, "CELLS are 0 to 7, each a number of 64 bits", DescriptionSentences::eightCells);
        Sentence.holds(all, "(0 at first)", DescriptionSentences::cellsAtFirst);
        Sentence.holds(all, "its HIGH half and its LOW half are 32 bits each", DescriptionSentences::halvesApart);
        Sentence.holds(all, "As a signed number it is from -2^63 to 2^63 - 1 (the first bit counts as -2^63)",
            DescriptionSentences::signedNumber);
        Sentence.holds(all, "as an unsigned one from 0 to 2^64 - 1", DescriptionSentences::unsignedNumber);
        Sentence.holds(all, "The INT of a CELL is its LOW half alone", DescriptionSentences::lowAlone);
        Sentence.holds(all, "signed from -2^31 to 2^31 - 1", DescriptionSentences::signedInt);
        Sentence.holds(all, "unsigned from 0 to 2^32 - 1", DescriptionSentences::unsignedInt);
        Sentence.holds(all, "To set a CELL to an INT: LOW is that, and all bits of HIGH are as the first bit of LOW",
            DescriptionSentences::setToAnInt);
        Sentence.holds(all, "HIGH and LOW are told as signed ints", DescriptionSentences::signedHalves);
        Sentence.holds(all, "Two CELLS that a call names may be the same one", DescriptionSentences::theSameCell);
        Sentence.holds(all, "TEXT is a row of at most 70 signs", DescriptionSentences::atMost70);
        Sentence.holds(all, "(\"\" at first)", DescriptionSentences::textAtFirst);
        Sentence.holds(all, "digits \"0\" to \"9\", letters \"a\" to \"z\" and \"A\" to \"Z\", \"-\" and \"+\"",
            DescriptionSentences::signs);
        Sentence.holds(all, "A letter is worth 10 and more, in the order of the alphabet, great ones as small ones",
            DescriptionSentences::letters);
        Sentence.holds(all, "In a RADIX (2 to 36)", DescriptionSentences::radixes);
        Sentence.holds(all, "is a DIGIT, if it is worth less than the RADIX", DescriptionSentences::digits);
        Sentence.holds(all, "0 signed INT, 1 unsigned INT, 2 signed number of 64 bits, 3 unsigned one",
            DescriptionSentences::kinds);
        Sentence.holds(all, "a CELL is set to them as above, to an unsigned one, too",
            DescriptionSentences::unsignedSet);
        Sentence.holds(all, "if it is one DIGIT or more", DescriptionSentences::oneDigitOrMore);
        Sentence.holds(all, "with a \"+\" in front or without", DescriptionSentences::plusInFront);
        Sentence.holds(all, "or (KINDS 0 and 2 alone) with a \"-\" in front", DescriptionSentences::minusInFront);
        Sentence.holds(all, "and what that says is in the range of that KIND", DescriptionSentences::inRange);
        Sentence.holds(all, "its digits with small letters, the highest place first",
            DescriptionSentences::digitsWritten);
        Sentence.holds(all, "no zero in front (but \"0\" itself)", DescriptionSentences::noZeroInFront);
        Sentence.holds(all, "with \"-\" in front if it is below 0 (of a signed one)",
            DescriptionSentences::minusWritten);
        Sentence.holds(all, "TEXT is that then", DescriptionSentences::textIsThat);
        Sentence.holds(all, "NONE is -1", DescriptionSentences::none);
        Sentence.holds(all, "X by X is by rising numbers", DescriptionSentences::byRisingNumbers);
        Sentence.holds(all, "FAULTS: how often a TEXT was read that was no such number", DescriptionSentences::faults);
        Sentence.holds(all, "A method that throws an exception changes nothing", RefusalSentences::changesNothing);
        Sentence.holds(all, "If several exceptions apply, the one that is named first is thrown",
            RefusalSentences::namedFirst);
        Sentence.holds(all, "What is asked", RefusalSentences::askedChangesNothing);
        Sentence.holds(all, "and what would be, changes nothing", RefusalSentences::wouldBeChangesNothing);
    }

    private static void the512thCall() {
        Radixbench knocked = new Radixbench();
        Radixbench read = new Radixbench();
        Radixbench written = new Radixbench();
        for (int call = 1; call <= 511; call++) {
            knocked.knock();
            read.read(0, 10, 0);
            written.bits(0, 0, false);
        }
        Due.is("a 512th knock", knocked.knock(), 512);
        Due.is("FAULTS asked by the 512th call", read.bench(1), 511);
        Due.is("written, asked by the 512th call", written.bench(3), 511);
    }

    private static void eightCells() {
        Radixbench bench = new Radixbench();
        for (int cell = 0; cell < 8; cell++) {
            bench.put(cell, -1 - cell, cell + 1);
        }
        for (int cell = 0; cell < 8; cell++) {
            Due.is("HIGH of " + cell, bench.high(cell), -1 - cell);
            Due.is("LOW of " + cell, bench.low(cell), cell + 1);
        }
        Due.outside("before the first", () -> bench.put(-1, 0, 0));
        Due.outside("behind the last", () -> bench.put(8, 0, 0));
    }

    private static void cellsAtFirst() {
        Radixbench bench = new Radixbench();
        for (int cell = 0; cell < 8; cell++) {
            Due.is("HIGH of " + cell, bench.high(cell), 0);
            Due.is("LOW of " + cell, bench.low(cell), 0);
        }
    }

    private static void halvesApart() {
        Radixbench bench = new Radixbench();
        bench.put(0, 0, -1);
        Due.is("HIGH by a LOW of 32 bits", bench.high(0), 0);
        Due.is("LOW of 32 bits", bench.low(0), -1);
        bench.put(0, -1, 0);
        Due.is("HIGH of 32 bits", bench.high(0), -1);
        Due.is("LOW by a HIGH of 32 bits", bench.low(0), 0);
    }

    private static void signedNumber() {
        Radixbench bench = Bench.of(MIN, MAX, -1);
        Due.is("the least", bench.written(0, 10, 2), "-9223372036854775808");
        Due.is("the greatest", bench.written(1, 10, 2), "9223372036854775807");
        Due.is("all bits", bench.written(2, 10, 2), "-1");
        Due.is("the least to the greatest", bench.compare(0, 1, false, false), -1);
        Due.is("the least's sign", bench.count(0, 3, false), -1);
        Due.is("the greatest's sign", bench.count(1, 3, false), 1);
    }

    private static void unsignedNumber() {
        Radixbench bench = Bench.of(0, -1, MIN, MAX);
        Due.is("the least", bench.written(0, 10, 3), "0");
        Due.is("the greatest", bench.written(1, 10, 3), "18446744073709551615");
        Due.is("the first bit", bench.written(2, 10, 3), "9223372036854775808");
        Due.is("the greatest to the least", bench.compare(1, 0, true, false), 1);
        Due.is("the first bit to all others", bench.compare(2, 3, true, false), 1);
    }

    private static void lowAlone() {
        for (int high : new int[] {0, 1, -1, Integer.MIN_VALUE, Integer.MAX_VALUE}) {
            Radixbench bench = new Radixbench();
            bench.put(0, high, 7);
            Due.is("signed with HIGH " + high, bench.written(0, 10, 0), "7");
            Due.is("unsigned with HIGH " + high, bench.written(0, 10, 1), "7");
            Due.is("its bits with HIGH " + high, bench.count(0, 0, true), 3);
            bench.put(1, 0, 7);
            Due.is("compared with HIGH " + high, bench.compare(0, 1, false, true), 0);
            Due.is("compared unsigned with HIGH " + high, bench.compare(0, 1, true, true), 0);
        }
    }

    private static void signedInt() {
        Radixbench bench = Bench.of(0x80000000L, 0x7FFFFFFFL, LOW_BITS);
        Due.is("the least", bench.written(0, 10, 0), "-2147483648");
        Due.is("the greatest", bench.written(1, 10, 0), "2147483647");
        Due.is("all bits", bench.written(2, 10, 0), "-1");
        Due.is("the least to the greatest", bench.compare(0, 1, false, true), -1);
        Due.is("the least's sign", bench.count(0, 3, true), -1);
        Due.is("the greatest's sign", bench.count(1, 3, true), 1);
    }

    private static void unsignedInt() {
        Radixbench bench = Bench.of(7L << 32, -1, 0x80000000L, 0x7FFFFFFFL);
        Due.is("the least", bench.written(0, 10, 1), "0");
        Due.is("the greatest", bench.written(1, 10, 1), "4294967295");
        Due.is("the first bit", bench.written(2, 10, 1), "2147483648");
        Due.is("the greatest to the least", bench.compare(1, 0, true, true), 1);
        Due.is("the first bit to all others", bench.compare(2, 3, true, true), 1);
    }

    /** Each call that sets a CELL to an INT, with a HIGH that must go, to INTS with and without a first bit. */
    private static void setToAnInt() {
        long full = (0x5A5A5A5AL << 32) + LOW_BITS;
        setTo("read", full, INT_MAX, b -> readOf(b, "2147483647", 0));
        setTo("read", full, INT_MIN, b -> readOf(b, "-2147483648", 0));
        setTo("read unsigned", full, INT_MIN, b -> readOf(b, "2147483648", 1));
        setTo("divide", full, INT_MAX, b -> b.divide(0, 2, true));
        setTo("divide", full, -1, b -> b.divide(0, 1, true));
        setTo("rest", full, 1, b -> b.rest(0, 2, true));
        setTo("rest", full - 1, -2, b -> b.rest(0, 3, true));
        setTo("turn", full - 1, INT_MAX, b -> b.turn(0, -1, true));
        setTo("turn", full - 1, -3, b -> b.turn(0, 1, true));
        setTo("turn by 0", full, -1, b -> b.turn(0, 0, true));
        setTo("about", full - 1, INT_MAX, b -> b.about(0, false, true));
        setTo("about by bytes", full - 1, 0xFEFFFFFF, b -> b.about(0, true, true));
        setTo("pick", full, 1, b -> b.pick(0, false, true));
        setTo("pick", full, INT_MIN, b -> b.pick(0, true, true));
        setTo("sum", full, 0, b -> b.join(0, 1, 0, true));
        setTo("sum", full - 1, -1, b -> b.join(0, 1, 0, true));
        setTo("sum beyond the INTS", full - (1L << 31), INT_MIN, b -> b.join(0, 1, 0, true));
        setTo("sum below the INTS", full - (1L << 31) + 1, INT_MAX, b -> b.join(0, 3, 0, true));
        setTo("greater", full, 1, b -> b.join(0, 1, 1, true));
        setTo("smaller", full, -1, b -> b.join(0, 1, 2, true));
    }

    private static void setTo(String call, long before, long want, Consumer<Radixbench> set) {
        Radixbench bench = Bench.of(before, 1, 2, -1);
        set.accept(bench);
        Due.is(call + " sets LOW", bench.low(0), (int) want);
        Due.is(call + " sets HIGH", bench.high(0), want < 0 ? -1 : 0);
    }

    private static int readOf(Radixbench bench, String text, int kind) {
        Bench.type(bench, text);
        return bench.read(0, 10, kind);
    }

    private static void signedHalves() {
        Radixbench bench = new Radixbench();
        bench.put(0, Integer.MIN_VALUE, Integer.MAX_VALUE);
        bench.put(1, Integer.MAX_VALUE, Integer.MIN_VALUE);
        Due.is("the least HIGH", bench.high(0), Integer.MIN_VALUE);
        Due.is("the greatest LOW", bench.low(0), Integer.MAX_VALUE);
        Due.is("the greatest HIGH", bench.high(1), Integer.MAX_VALUE);
        Due.is("the least LOW", bench.low(1), Integer.MIN_VALUE);
        Bench.type(bench, "ffffffff80000000");
        Due.is("what HIGH would be", bench.would(16, 3, true), -1);
        Due.is("what LOW would be", bench.would(16, 3, false), Integer.MIN_VALUE);
    }

    private static void theSameCell() {
        for (int cell = 0; cell < 8; cell++) {
            for (boolean isInt : new boolean[] {false, true}) {
                Radixbench bench = new Radixbench();
                bench.put(cell, 0, 6);
                Due.is("copy " + cell, bench.copy(cell, cell), false);
                Due.is("sum " + cell, bench.join(cell, cell, 0, isInt), true);
                Due.is("twice that", bench.low(cell), 12);
                Due.is("greater " + cell, bench.join(cell, cell, 1, isInt), false);
                Due.is("smaller " + cell, bench.join(cell, cell, 2, isInt), false);
                Due.is("compare " + cell, bench.compare(cell, cell, isInt, isInt), 0);
                Due.is("divide " + cell, bench.divide(cell, cell, isInt), false);
                Due.is("once", bench.low(cell), 1);
                Due.is("rest " + cell, bench.rest(cell, cell, isInt), true);
                Due.is("nothing", bench.low(cell), 0);
            }
        }
    }

    private static void atMost70() {
        Radixbench bench = new Radixbench();
        for (int signs = 1; signs <= 70; signs++) {
            Due.is("sign " + signs, bench.type(signs % 38, false), signs);
        }
        for (int sign = 0; sign <= 37; sign++) {
            int another = sign;
            Due.state("sign 71, a " + sign, () -> bench.type(another, true));
        }
        Due.is("the text's length", bench.text().length(), 70);
    }

    private static void textAtFirst() {
        Radixbench bench = new Radixbench();
        Due.is("the text", bench.text(), "");
        Due.is("its signs", bench.bench(0), 0);
    }

    private static void signs() {
        String small = "0123456789" + SMALLS + "-+";
        String great = "0123456789" + GREATS + "-+";
        for (int sign = 0; sign <= 37; sign++) {
            Radixbench bench = new Radixbench();
            bench.type(sign, false);
            bench.type(sign, true);
            Due.is("sign " + sign, bench.text(), "" + small.charAt(sign) + great.charAt(sign));
        }
    }

    private static void letters() {
        for (int at = 0; at < 26; at++) {
            Radixbench bench = Bench.typed("" + SMALLS.charAt(at) + GREATS.charAt(at));
            Due.is("small letter " + at, bench.digit(0, 36), 10 + at);
            Due.is("great letter " + at, bench.digit(1, 36), 10 + at);
            Due.is("both read", bench.would(36, 2, false), (10 + at) * 37);
        }
    }

    private static void radixes() {
        Radixbench bench = Bench.typed("1");
        bench.put(0, 0, 35);
        Due.is("the least, written", bench.written(0, 2, 0), "100011");
        Due.is("the greatest, written", bench.written(0, 36, 0), "z");
        Due.is("the least, read", bench.isNumber(2, 0), true);
        Due.is("the greatest, read", bench.isNumber(36, 0), true);
        for (int radix : new int[] {1, 37}) {
            Due.illegal("written by " + radix, () -> bench.written(0, radix, 0));
            Due.illegal("read by " + radix, () -> bench.isNumber(radix, 0));
            Due.illegal("a digit by " + radix, () -> bench.digit(0, radix));
        }
    }

    private static void digits() {
        String small = "0123456789" + SMALLS;
        String great = "0123456789" + GREATS;
        for (int radix = 2; radix <= 36; radix++) {
            for (String signs : new String[] {small, great}) {
                Radixbench last = Bench.typed(signs.substring(radix - 1, radix));
                Due.is("the last digit by " + radix, last.digit(0, radix), radix - 1);
                Due.is("the last digit read by " + radix, last.would(radix, 2, false), radix - 1);
                if (radix < 36) {
                    Radixbench next = Bench.typed(signs.substring(radix, radix + 1));
                    Due.is("the next sign by " + radix, next.digit(0, radix), -1);
                    Due.is("the next sign read by " + radix, next.isNumber(radix, 3), false);
                }
            }
        }
    }

    private static void kinds() {
        long[] least = {INT_MIN, 0, MIN, 0};
        String[] leasts = {"-2147483648", "0", "-9223372036854775808", "0"};
        String[] greatests = {"2147483647", "4294967295", "9223372036854775807", "18446744073709551615"};
        for (int kind = 0; kind < 4; kind++) {
            Radixbench bench = Bench.typed(leasts[kind]);
            Due.is("the least of kind " + kind, bench.read(0, 10, kind), 1);
            Due.is("is that", Bench.cell(bench, 0), least[kind]);
            Due.is("written as kind " + kind, bench.written(0, 10, kind), leasts[kind]);
            Bench.type(bench, greatests[kind]);
            Due.is("the greatest of kind " + kind, bench.read(0, 10, kind), 1);
            Due.is("written as kind " + kind, bench.written(0, 10, kind), greatests[kind]);
        }
    }

    private static void unsignedSet() {
        Radixbench bench = Bench.of(1L << 40, 1L << 40, 1L << 40);
        readOf(bench, "4294967295", 1);
        Due.is("the greatest INT", Bench.cell(bench, 0), -1L);
        readOf(bench, "2147483648", 1);
        Due.is("with the first bit", Bench.cell(bench, 0), INT_MIN);
        Due.is("its HIGH would be", bench.would(10, 1, true), -1);
        readOf(bench, "2147483647", 1);
        Due.is("without the first bit", Bench.cell(bench, 0), INT_MAX);
        Due.is("its HIGH would be", bench.would(10, 1, true), 0);
    }

    private static void oneDigitOrMore() {
        for (int kind = 0; kind < 4; kind++) {
            isNumber("", 36, kind, false);
            isNumber("+", 36, kind, false);
            isNumber("-", 36, kind, false);
            isNumber("+-", 36, kind, false);
            isNumber("0", 36, kind, true);
            isNumber("z", 36, kind, true);
            isNumber("+1", 36, kind, true);
            isNumber("0".repeat(70), 36, kind, true);
            isNumber("0".repeat(69) + "1", 36, kind, true);
            isNumber("1z", 35, kind, false);
            isNumber("z1", 35, kind, false);
            isNumber("0".repeat(69) + "z", 35, kind, false);
        }
    }

    private static void plusInFront() {
        for (int kind = 0; kind < 4; kind++) {
            isNumber("+7", 8, kind, true);
            isNumber("7", 8, kind, true);
            isNumber("+" + "0".repeat(69), 8, kind, true);
            isNumber("++7", 8, kind, false);
            isNumber("7+", 8, kind, false);
            isNumber("7+7", 8, kind, false);
            isNumber("-+7", 8, kind, false);
        }
        Radixbench bench = Bench.typed("+17");
        Due.is("what it says", bench.would(8, 2, false), 15);
    }

    private static void minusInFront() {
        for (int kind = 0; kind < 4; kind++) {
            isNumber("-7", 8, kind, kind % 2 == 0);
            isNumber("-0", 8, kind, kind % 2 == 0);
            isNumber("-" + "0".repeat(69), 8, kind, kind % 2 == 0);
            isNumber("--7", 8, kind, false);
            isNumber("7-", 8, kind, false);
            isNumber("7-7", 8, kind, false);
            isNumber("+-7", 8, kind, false);
        }
        Radixbench bench = Bench.typed("-17");
        Due.is("what it says", bench.would(8, 0, false), -15);
        Bench.type(bench, "-0");
        Due.is("0 with it", bench.would(8, 2, true) | bench.would(8, 2, false), 0);
    }

    private static void isNumber(String text, int radix, int kind, boolean want) {
        Due.is("'" + text + "' by " + radix + ", kind " + kind, Bench.typed(text).isNumber(radix, kind), want);
    }

    /** The edges of every KIND in every RADIX, and what would be in the range by a wrap-around. */
    private static void inRange() {
        for (int radix = 2; radix <= 36; radix++) {
            for (int kind = 0; kind < 4; kind++) {
                int bits = kind < 2 ? 32 : 64;
                BigInteger beyond = BigInteger.ONE.shiftLeft(kind % 2 == 0 ? bits - 1 : bits);
                BigInteger least = kind % 2 == 0 ? beyond.negate() : BigInteger.ZERO;
                isIn(beyond.subtract(BigInteger.ONE), radix, kind, true);
                isIn(beyond, radix, kind, false);
                isIn(least, radix, kind, true);
                isIn(least.subtract(BigInteger.ONE), radix, kind, false);
                isIn(BigInteger.ONE.shiftLeft(bits), radix, kind, false);
                isIn(BigInteger.ONE.shiftLeft(64), radix, kind, false);
                isIn(BigInteger.ONE.shiftLeft(64).add(BigInteger.ONE), radix, kind, false);
                isIn(BigInteger.ONE.shiftLeft(64).negate(), radix, kind, false);
                isIn(BigInteger.ONE.shiftLeft(64).negate().subtract(BigInteger.ONE), radix, kind, false);
                isNumber("1" + "0".repeat(69), radix, kind, false);
                isNumber(Integer.toString(radix - 1, 36).repeat(70), radix, kind, false);
            }
        }
    }

    private static void isIn(BigInteger number, int radix, int kind, boolean want) {
        isNumber(number.toString(radix), radix, kind, want);
        String digits = number.abs().toString(radix);
        String zeros = "0".repeat(69 - digits.length());
        isNumber((number.signum() < 0 ? "-" : "+") + zeros + digits, radix, kind, want);
    }

    private static void digitsWritten() {
        Radixbench bench = Bench.of(0x123456789ABCDEFL, 35 * 36 + 10, 6);
        Due.is("by 16", bench.written(0, 16, 2), "123456789abcdef");
        Due.is("by 36", bench.written(1, 36, 0), "za");
        Due.is("by 2", bench.written(2, 2, 1), "110");
    }

    private static void noZeroInFront() {
        Radixbench bench = Bench.of(0, 1, -1, MIN, 36, 4294967296L);
        for (int radix = 2; radix <= 36; radix++) {
            for (int kind = 0; kind < 4; kind++) {
                Due.is("0 by " + radix + ", kind " + kind, bench.written(0, radix, kind), "0");
                Due.is("1 by " + radix + ", kind " + kind, bench.written(1, radix, kind), "1");
                Due.is("an INT of 0 by " + radix, bench.written(5, radix, kind % 2), "0");
                for (int cell = 2; cell < 5; cell++) {
                    String digits = bench.written(cell, radix, kind).replace("-", "");
                    Due.is("a zero ahead of " + digits, digits.length() > 1 && digits.startsWith("0"), false);
                }
            }
        }
        Due.is("0 alone", bench.bits(0, 0, false), 1);
    }

    private static void minusWritten() {
        Radixbench bench = Bench.of(-1, MIN, 0, LOW_BITS, 1);
        String[][] want = {
            {"-1", "ffffffff", "-1", "ffffffffffffffff"}, {"0", "0", "-8000000000000000", "8000000000000000"},
            {"0", "0", "0", "0"}, {"-1", "ffffffff", "ffffffff", "ffffffff"}, {"1", "1", "1", "1"}};
        for (int cell = 0; cell < want.length; cell++) {
            for (int kind = 0; kind < 4; kind++) {
                Due.is("cell " + cell + ", kind " + kind, bench.written(cell, 16, kind), want[cell][kind]);
            }
        }
    }

    private static void textIsThat() {
        Radixbench bench = Bench.typed("9".repeat(70));
        bench.put(0, 0, 5);
        Due.is("written over 70 signs", bench.write(0, 10, 0), 1);
        Due.is("is that", bench.text(), "5");
        Due.is("typed behind", bench.type(7, false), 2);
        Due.is("is that", bench.text(), "57");
        Due.is("read", bench.read(1, 10, 0) + bench.low(1), 58);
        Due.is("bits written", bench.bits(1, 2, true), 2);
        Due.is("is that", bench.text(), "39");
        Due.is("erased", bench.erase(), 1);
        Due.is("is that", bench.text(), "3");
    }

    private static void none() {
        Radixbench bench = Bench.typed("-2");
        Due.is("no DIGIT", bench.digit(0, 36), -1);
        Due.is("no DIGIT by 2", bench.digit(1, 2), -1);
        Due.is("no bit", bench.pick(0, true, false), -1);
        Due.is("no bit of an INT", bench.pick(0, false, true), -1);
    }

    /** The first and the last of the CELLS stand at places of their own in the checksum. */
    private static void byRisingNumbers() {
        Radixbench bench = Bench.of(3L << 32);
        long[] first = {3, 0, 2, 30, 32, 1, 0, 32, 32, 0};
        long[] other = {0, 0, 0, 64, 64, 0, 0, 32, 32, 0};
        BigInteger d = WouldBeSentences.sum(BigInteger.valueOf(8111), 0, 0, 0, 0, 0);
        d = WouldBeSentences.sum(d, first);
        for (int cell = 1; cell < 8; cell++) {
            d = WouldBeSentences.sum(d, other);
        }
        String high = Long.toString(3L << 32, 7);
        d = WouldBeSentences.sum(d, 0, 0, 1, 0, 0, 1, 0, 0, high.length(), 0, 0, high.length(), 0, 1);
        Due.is("cell by cell, kind by kind", bench.digest(), d.longValue());
    }

    private static void faults() {
        Radixbench bench = Bench.typed("2");
        bench.read(0, 10, 0);
        Due.is("a number is none", bench.bench(1), 0);
        bench.isNumber(2, 0);
        bench.would(2, 0, true);
        bench.same(2, 0);
        Due.of(() -> bench.read(0, 1, 0));
        Due.of(() -> bench.read(8, 2, 0));
        Due.is("what was not read is none", bench.bench(1), 0);
        bench.read(0, 2, 0);
        bench.read(1, 2, 3);
        Due.is("two", bench.bench(1), 2);
        bench.read(1, 3, 3);
        Due.is("they stay", bench.bench(1), 2);
        bench.clear();
        bench.read(0, 10, 0);
        Due.is("of an empty one, too", bench.bench(1), 3);
    }
}
