/** The sentences of the promises 10 to 16: divide, rest, turn, about, pick, join, knock. */
final class NumbersSentences {
    private static final long MIN = Long.MIN_VALUE;
    private static final long MAX = Long.MAX_VALUE;
    private static final long INT_MIN = Integer.MIN_VALUE;
    private static final long LOW_BITS = 0xFFFFFFFFL;
    private static final String NO_CELL = "`IndexOutOfBoundsException` if there is no such CELL";
    private static final String NO_CELLS = "`IndexOutOfBoundsException` if there is no such CELL, of both";
    private static final String BY_0 = "`IllegalStateException` if the other one (its INT, if isInt) is 0";
    private static final String CHANGED = "Returns whether the CELL changed (HIGH, too).";

    private NumbersSentences() {
    }

    static void hold() {
        holdDivision();
        holdBits();
        holdJoinAndKnock();
    }

    private static void holdDivision() {
        Sentence.holds(10, "A CELL becomes, without signs, the quotient by another one.", NumbersSentences::quotients);
        Sentence.holds(10, "whether by their INTS (the CELL is set to the INT of the quotient)",
            NumbersSentences::quotientsOfInts);
        Sentence.holds(10, "Returns whether there is a rest.", NumbersSentences::divideAnswers);
        Sentence.holds(10, NO_CELLS, () -> {
            Range.ofCells((bench, cell) -> bench.divide(cell, 0, false));
            Range.ofCells((bench, cell) -> bench.divide(0, cell, false));
            Range.ofCells((bench, cell) -> bench.divide(cell, cell, true));
        });
        Sentence.holds(10, BY_0, () -> byZero((bench, by, isInt) -> bench.divide(0, by, isInt)));

        Sentence.holds(11, "A CELL becomes, without signs, the rest by another one.", NumbersSentences::rests);
        Sentence.holds(11, "whether by their INTS (the CELL is set to the INT of the rest)",
            NumbersSentences::restsOfInts);
        Sentence.holds(11, "Returns whether that is 0.", NumbersSentences::restAnswers);
        Sentence.holds(11, NO_CELLS, () -> {
            Range.ofCells((bench, cell) -> bench.rest(cell, 0, false));
            Range.ofCells((bench, cell) -> bench.rest(0, cell, false));
            Range.ofCells((bench, cell) -> bench.rest(cell, cell, true));
        });
        Sentence.holds(11, BY_0, () -> byZero((bench, by, isInt) -> bench.rest(0, by, isInt)));
    }

    private static void holdBits() {
        Sentence.holds(12, "Turns the bits of a CELL to the left; what goes out comes in at the other end.",
            NumbersSentences::turnedLeft);
        Sentence.holds(12, "by how many places (to the right, if below 0)", NumbersSentences::places);
        Sentence.holds(12, "whether of its INT (32 bits; the CELL is set to that)", NumbersSentences::intsTurned);
        Sentence.holds(12, CHANGED, NumbersSentences::turnAnswers);
        Sentence.holds(12, NO_CELL, () -> {
            Range.ofCells((bench, cell) -> bench.turn(cell, 1, false));
            Range.ofCells((bench, cell) -> bench.turn(cell, 0, true));
        });

        Sentence.holds(13, "Turns all about.", NumbersSentences::turnedAbout);
        Sentence.holds(13, "whether the bytes (8 bits each) come in the other order, otherwise the bits",
            NumbersSentences::bytesOrBits);
        Sentence.holds(13, "whether of its INT (the CELL is set to that)", NumbersSentences::intsTurnedAbout);
        Sentence.holds(13, CHANGED, NumbersSentences::aboutAnswers);
        Sentence.holds(13, NO_CELL, () -> {
            Range.ofCells((bench, cell) -> bench.about(cell, false, false));
            Range.ofCells((bench, cell) -> bench.about(cell, true, true));
        });

        Sentence.holds(14, "just one bit stays (none of 0); with isInt the CELL is set to that INT",
            NumbersSentences::oneBitStays);
        Sentence.holds(14, "whether the highest 1, otherwise the lowest one", NumbersSentences::highestOrLowest);
        Sentence.holds(14, "whether of its INT (the CELL is set to that)", NumbersSentences::bitsOfInts);
        Sentence.holds(14, "Returns its place from the right, from 0 on; NONE of 0.", NumbersSentences::pickAnswers);
        Sentence.holds(14, NO_CELL, () -> {
            Range.ofCells((bench, cell) -> bench.pick(cell, true, false));
            Range.ofCells((bench, cell) -> bench.pick(cell, false, true));
        });
    }

    private static void holdJoinAndKnock() {
        Sentence.holds(15, "A CELL becomes the sum, the greater or the smaller one of both, with signs",
            NumbersSentences::joinedWithSigns);
        Sentence.holds(15, "the sum without what goes beyond 64 (32) bits", NumbersSentences::beyondTheBits);
        Sentence.holds(15, "0 the sum, 1 the greater one, 2 the smaller one", NumbersSentences::whats);
        Sentence.holds(15, "whether of their INTS (the CELL is set to that)", NumbersSentences::intsJoined);
        Sentence.holds(15, CHANGED, NumbersSentences::joinAnswers);
        Sentence.holds(15, NO_CELLS, () -> {
            Range.ofCells((bench, cell) -> bench.join(cell, 0, 0, false));
            Range.ofCells((bench, cell) -> bench.join(0, cell, 1, true));
            Range.ofCells((bench, cell) -> bench.join(cell, cell, 2, false));
        });
        Sentence.holds(15, "`IllegalArgumentException` if what is not 0 to 2", () -> {
            Range.illegal(0, 2, (bench, what) -> bench.join(0, 1, what, false));
            Range.illegal(0, 2, (bench, what) -> bench.join(0, 0, what, true));
        });

        Sentence.holds(16, "Knocks: nobody opens.", NumbersSentences::nobodyOpens);
        Sentence.holds(16, "Returns how often that was, with this.", NumbersSentences::knockAnswers);
    }

    // ---- division

    private interface Division {
        boolean of(Radixbench bench, int by, boolean isInt);
    }

    private static void divided(long number, long by, boolean isInt, long quotient) {
        Radixbench bench = Bench.of(number, by);
        bench.divide(0, 1, isInt);
        Due.is(number + " by " + by + ", isInt " + isInt, Bench.cell(bench, 0), quotient);
        Due.is("the other one stays", Bench.cell(bench, 1), by);
    }

    private static void quotients() {
        divided(0, 1, false, 0);
        divided(-1, 1, false, -1);
        divided(-1, 2, false, MAX);
        divided(-1, -1, false, 1);
        divided(-2, -1, false, 0);
        divided(MAX, MIN, false, 0);
        divided(MIN, MIN, false, 1);
        divided(-1, MIN, false, 1);
        divided(MIN, -1, false, 0);
        divided(MIN, 2, false, 1L << 62);
        divided(-2, MAX, false, 2);
        divided(-3, MAX, false, 1);
        divided(-1, 3, false, 0x5555555555555555L);
        divided(MIN, 1, false, MIN);
    }

    private static void quotientsOfInts() {
        divided(-1, 1, true, -1);
        divided(LOW_BITS, 1, true, -1);
        divided(LOW_BITS, 2, true, Integer.MAX_VALUE);
        divided(0x80000000L, 1, true, INT_MIN);
        divided(0x80000000L, -1, true, 0);
        divided(-2, -1, true, 0);
        divided(-1, 0x80000000L, true, 1);
        divided((7L << 32) + 9, 3, true, 3);
        divided(9, (7L << 32) + 3, true, 3);
        divided(7L << 32, 3, true, 0);
        divided(-2, Integer.MAX_VALUE, true, 2);
    }

    private static void divideAnswers() {
        for (boolean isInt : new boolean[] {false, true}) {
            Due.is("0 by 1", Bench.of(0, 1).divide(0, 1, isInt), false);
            Due.is("1 by 2", Bench.of(1, 2).divide(0, 1, isInt), true);
            Due.is("2 by 2", Bench.of(2, 2).divide(0, 1, isInt), false);
            Due.is("3 by 2", Bench.of(3, 2).divide(0, 1, isInt), true);
            Due.is("all bits by 2", Bench.of(-1, 2).divide(0, 1, isInt), true);
            Due.is("all bits by themselves", Bench.of(-1, -1).divide(0, 0, isInt), false);
            Due.is("all bits by all but the last", Bench.of(-1, -2).divide(0, 1, isInt), true);
            Due.is("all bits by 3", Bench.of(-1, 3).divide(0, 1, isInt), false);
        }
        Due.is("a rest of HIGH", Bench.of((1L << 32) + 2, 1L << 33).divide(0, 1, false), true);
        Due.is("a rest of 2^63", Bench.of(MIN, -1).divide(0, 1, false), true);
        Due.is("HIGH is no rest of INTS", Bench.of((1L << 32) + 3, 3).divide(0, 1, true), false);
        Due.is("HIGH is no divisor of INTS", Bench.of(3, (1L << 32) + 3).divide(0, 1, true), false);
    }

    private static void left(long number, long by, boolean isInt, long rest) {
        Radixbench bench = Bench.of(number, by);
        bench.rest(0, 1, isInt);
        Due.is(number + " by " + by + ", isInt " + isInt, Bench.cell(bench, 0), rest);
        Due.is("the other one stays", Bench.cell(bench, 1), by);
    }

    private static void rests() {
        left(0, 1, false, 0);
        left(-1, 1, false, 0);
        left(-1, 2, false, 1);
        left(-1, -1, false, 0);
        left(-2, -1, false, -2);
        left(MAX, MIN, false, MAX);
        left(MIN, MIN, false, 0);
        left(-1, MIN, false, MAX);
        left(MIN, -1, false, MIN);
        left(MIN, 3, false, 2);
        left(-2, MAX, false, 0);
        left(-3, MAX, false, MAX - 1);
        left(-1, 10, false, 5);
    }

    private static void restsOfInts() {
        left(-2, -1, true, -2);
        left(LOW_BITS - 1, LOW_BITS, true, -2);
        left(0x80000000L, LOW_BITS, true, INT_MIN);
        left(LOW_BITS, 0x80000000L, true, Integer.MAX_VALUE);
        left(LOW_BITS, 10, true, 5);
        left((7L << 32) + 9, 4, true, 1);
        left(9, (7L << 32) + 4, true, 1);
        left((7L << 32) + 9, 9, true, 0);
    }

    private static void restAnswers() {
        for (boolean isInt : new boolean[] {false, true}) {
            Due.is("0 by 1", Bench.of(0, 1).rest(0, 1, isInt), true);
            Due.is("1 by 2", Bench.of(1, 2).rest(0, 1, isInt), false);
            Due.is("2 by 2", Bench.of(2, 2).rest(0, 1, isInt), true);
            Due.is("all bits by 2", Bench.of(-1, 2).rest(0, 1, isInt), false);
            Due.is("all bits by themselves", Bench.of(-1, -1).rest(0, 0, isInt), true);
            Due.is("all bits by 3", Bench.of(-1, 3).rest(0, 1, isInt), true);
        }
        Due.is("a rest of HIGH alone", Bench.of(1L << 32, 1L << 33).rest(0, 1, false), false);
        Due.is("a rest of 2^63", Bench.of(MIN, -1).rest(0, 1, false), false);
        Due.is("HIGH is no rest of INTS", Bench.of((1L << 32) + 3, 3).rest(0, 1, true), true);
    }

    private static void byZero(Division division) {
        long[] others = {0, 1, 1L << 32, MIN, LOW_BITS, -1L << 32};
        boolean[] isZero = {true, false, false, false, false, false};
        boolean[] isIntZero = {true, false, true, true, false, true};
        for (int k = 0; k < others.length; k++) {
            long other = others[k];
            is("by " + other, isZero[k], () -> division.of(Bench.of(5, other), 1, false));
            is("by the INT of " + other, isIntZero[k], () -> division.of(Bench.of(5, other), 1, true));
        }
        Radixbench bench = Bench.of(1L << 32);
        is("0 by itself", true, () -> division.of(Bench.of(0), 0, false));
        is("an INT of 0 by itself", true, () -> division.of(bench, 0, true));
        Due.is("the cell stays", Bench.cell(bench, 0), 1L << 32);
    }

    private static void is(String name, boolean isRefused, Due.Call call) {
        Object answer = Due.of(call);
        Due.is(name, answer instanceof Boolean ? "an answer" : answer,
            isRefused ? "throws.IllegalStateException" : "an answer");
    }

    // ---- bits

    private static void turned(long number, int places, boolean isInt, long want) {
        Radixbench bench = Bench.of(7, number, 7);
        bench.turn(1, places, isInt);
        Due.is(number + " turned by " + places + ", isInt " + isInt, Bench.cell(bench, 1), want);
        Due.is("the ones beside it", Bench.cell(bench, 0) + Bench.cell(bench, 2), 14L);
    }

    private static void turnedLeft() {
        turned(1, 1, false, 2);
        turned(MIN, 1, false, 1);
        turned(1, 63, false, MIN);
        turned(0x80000000L, 1, false, 1L << 32);
        turned(0xF000000000000001L, 4, false, 0x1F);
        turned(-2, 1, false, -3);
        turned(0, 63, false, 0);
        turned(-1, 63, false, -1);
    }

    private static void places() {
        for (boolean isInt : new boolean[] {false, true}) {
            turned(2, -1, isInt, 1);
            turned(1, -1, isInt, isInt ? INT_MIN : MIN);
            turned(6, 0, isInt, 6);
            turned(6, 64, isInt, 6);
            turned(6, -64, isInt, 6);
            turned(6, 65, isInt, 12);
            turned(6, -65, isInt, 3);
            turned(6, Integer.MIN_VALUE, isInt, 6);
            turned(6, Integer.MAX_VALUE, isInt, 3);
            turned(6, Integer.MIN_VALUE + 1, isInt, 12);
        }
        turned(6, 32, false, 6L << 32);
        turned(6, -32, false, 6L << 32);
        turned(6, 33, false, 12L << 32);
        turned(1, -63, false, 2);
        turned(1, 31, true, INT_MIN);
        turned(1, -31, true, 2);
        turned(6, 32, true, 6);
        turned(6, -32, true, 6);
        turned(6, 33, true, 12);
        turned(6, -33, true, 3);
    }

    private static void intsTurned() {
        turned(0x80000000L, 1, true, 1);
        turned((5L << 32) + 1, 1, true, 2);
        turned((5L << 32) + 0x40000000L, 1, true, INT_MIN);
        turned(5L << 32, 32, true, 0);
        turned((5L << 32) + 1, 0, true, 1);
        turned(LOW_BITS, 0, true, -1);
        turned(0x80000000L, 0, true, INT_MIN);
        turned(-1L << 32, 7, true, 0);
    }

    private static void turnAnswers() {
        Due.is("by 0", Bench.of(3).turn(0, 0, false), false);
        Due.is("all the way", Bench.of(3).turn(0, 64, false), false);
        Due.is("by 1", Bench.of(3).turn(0, 1, false), true);
        Due.is("0", Bench.of(0).turn(0, 5, false), false);
        Due.is("all bits", Bench.of(-1).turn(0, 5, false), false);
        Due.is("half of them by 1", Bench.of(0x5555555555555555L).turn(0, 1, false), true);
        Due.is("half of them by 2", Bench.of(0x5555555555555555L).turn(0, 2, false), false);
        Due.is("an INT all the way", Bench.of(3).turn(0, 32, true), false);
        Due.is("HIGH alone", Bench.of((1L << 32) + 3).turn(0, 32, true), true);
        Due.is("HIGH alone, by the first bit", Bench.of(LOW_BITS).turn(0, 1, true), true);
        Due.is("HIGH alone of 0", Bench.of(1L << 32).turn(0, 0, true), true);
        Due.is("HIGH as it must be", Bench.of(-1).turn(0, 9, true), false);
    }

    private static void about(long number, boolean isBytes, boolean isInt, long want) {
        Radixbench bench = Bench.of(7, 7, number, 7);
        bench.about(2, isBytes, isInt);
        String name = number + " about, isBytes " + isBytes + ", isInt " + isInt;
        Due.is(name, Bench.cell(bench, 2), want);
        Due.is("the ones beside it", Bench.cell(bench, 1) + Bench.cell(bench, 3), 14L);
    }

    private static void turnedAbout() {
        for (boolean isBytes : new boolean[] {false, true}) {
            about(0, isBytes, false, 0);
            about(-1, isBytes, false, -1);
            about(LOW_BITS, isBytes, false, -1L << 32);
            about(-1L << 32, isBytes, false, LOW_BITS);
        }
        about(1, false, false, MIN);
        about(MIN, false, false, 1);
        about(1L << 32, false, false, 1L << 31);
        about(0xFF, true, false, 0xFFL << 56);
        about(0xFFL << 56, true, false, 0xFF);
    }

    private static void bytesOrBits() {
        about(0x0102030405060708L, true, false, 0x0807060504030201L);
        about(0x0102030405060708L, false, false, 0x10E060A020C04080L);
        about(0x80, true, false, MIN);
        about(0x80, false, false, 1L << 56);
        about(0x01020304L, true, true, 0x04030201);
        about(0x01020304L, false, true, 0x20C04080);
        about(MIN + 0x80L, true, false, MIN + 0x80L);
    }

    private static void intsTurnedAbout() {
        about(1, false, true, INT_MIN);
        about(0x80, true, true, INT_MIN);
        about(0x80000000L, false, true, 1);
        about((5L << 32) + 0x80, false, true, 1 << 24);
        about(5L << 32, true, true, 0);
        about(5L << 32, false, true, 0);
        about(LOW_BITS, false, true, -1);
        about(LOW_BITS, true, true, -1);
    }

    private static void aboutAnswers() {
        for (boolean isBytes : new boolean[] {false, true}) {
            Due.is("0", Bench.of(0).about(0, isBytes, false), false);
            Due.is("all bits", Bench.of(-1).about(0, isBytes, false), false);
            Due.is("1", Bench.of(1).about(0, isBytes, false), true);
            Due.is("HIGH and LOW", Bench.of(LOW_BITS).about(0, isBytes, false), true);
            Due.is("HIGH alone, by the first bit", Bench.of(LOW_BITS).about(0, isBytes, true), true);
            Due.is("HIGH alone of 0", Bench.of(1L << 32).about(0, isBytes, true), true);
            Due.is("HIGH as it must be", Bench.of(-1).about(0, isBytes, true), false);
        }
        Due.is("the same both ways", Bench.of(MIN + 1).about(0, false, false), false);
        Due.is("HIGH alone, the same both ways", Bench.of((5L << 32) + 0x01010101L).about(0, true, true), true);
        Due.is("the same bytes both ways", Bench.of(0x0102030404030201L).about(0, true, false), false);
    }

    private static void picked(long number, boolean isHighest, boolean isInt, long want) {
        Radixbench bench = Bench.of(7, number, 7);
        bench.pick(1, isHighest, isInt);
        Due.is("of " + number + ", isHighest " + isHighest + ", isInt " + isInt, Bench.cell(bench, 1), want);
        Due.is("the ones beside it", Bench.cell(bench, 0) + Bench.cell(bench, 2), 14L);
    }

    private static void oneBitStays() {
        for (boolean isHighest : new boolean[] {false, true}) {
            picked(0, isHighest, false, 0);
            picked(0, isHighest, true, 0);
            picked(-1L << 32, isHighest, true, 0);
            picked(1, isHighest, false, 1);
            picked(MIN, isHighest, false, MIN);
            picked(MIN, isHighest, true, 0);
            picked(0x80000000L, isHighest, true, INT_MIN);
            picked(0x80000000L, isHighest, false, 0x80000000L);
        }
    }

    private static void highestOrLowest() {
        for (boolean isInt : new boolean[] {false, true}) {
            picked(6, true, isInt, 4);
            picked(6, false, isInt, 2);
            picked(-1, false, isInt, 1);
        }
        picked(-1, true, false, MIN);
        picked(-1, true, true, INT_MIN);
        picked((3L << 40) + 3, true, false, 1L << 41);
        picked((3L << 40) + 3, false, false, 1);
        picked(3L << 40, false, false, 1L << 40);
    }

    private static void bitsOfInts() {
        picked((5L << 32) + 6, true, true, 4);
        picked((5L << 32) + 6, false, true, 2);
        picked((5L << 32) + 1, true, true, 1);
        picked(-1L << 31, false, true, INT_MIN);
        picked(-1L << 31, true, true, INT_MIN);
        picked((1L << 32) + 0xC0000000L, false, true, 1L << 30);
        picked(5L << 32, true, true, 0);
    }

    private static void pickAnswers() {
        for (int place = 0; place < 64; place++) {
            for (boolean isHighest : new boolean[] {false, true}) {
                Due.is("bit " + place, Bench.of(1L << place).pick(0, isHighest, false), place);
                Due.is("bit " + place + " of its INT", Bench.of(1L << place).pick(0, isHighest, true),
                    place < 32 ? place : -1);
            }
            Due.is("from bit " + place + " down", Bench.of(-1L >>> (63 - place)).pick(0, true, false), place);
            Due.is("from bit " + place + " up", Bench.of(-1L << place).pick(0, false, false), place);
        }
        Due.is("none", Bench.of(0).pick(0, true, false), -1);
        Due.is("none of an INT", Bench.of(-1L << 32).pick(0, false, true), -1);
    }

    // ---- join and knock

    private static void joined(long one, long two, int what, boolean isInt, long want) {
        Radixbench bench = Bench.of(one, two);
        bench.join(0, 1, what, isInt);
        Due.is(one + " and " + two + ", what " + what + ", isInt " + isInt, Bench.cell(bench, 0), want);
        Due.is("the other one stays", Bench.cell(bench, 1), two);
    }

    private static void joinedWithSigns() {
        joined(-1, 1, 1, false, 1);
        joined(-1, 1, 2, false, -1);
        joined(MIN, MAX, 1, false, MAX);
        joined(MIN, MAX, 2, false, MIN);
        joined(MAX, MIN, 1, false, MAX);
        joined(MAX, MIN, 2, false, MIN);
        joined(MIN, 0, 1, false, 0);
        joined(-1, 0, 2, false, -1);
        joined(-5, 3, 0, false, -2);
        joined(LOW_BITS, 1, 1, true, 1);
        joined(LOW_BITS, 1, 2, true, -1);
        joined(0x80000000L, 0x7FFFFFFFL, 1, true, Integer.MAX_VALUE);
        joined(0x80000000L, 0x7FFFFFFFL, 2, true, INT_MIN);
    }

    private static void beyondTheBits() {
        joined(MAX, 1, 0, false, MIN);
        joined(MIN, -1, 0, false, MAX);
        joined(MIN, MIN, 0, false, 0);
        joined(-1, -1, 0, false, -2);
        joined(-1, 1, 0, false, 0);
        joined(LOW_BITS, 1, 0, false, 1L << 32);
        joined(0x7FFFFFFFL, 1, 0, false, 0x80000000L);
        joined(0x7FFFFFFFL, 1, 0, true, INT_MIN);
        joined(INT_MIN, -1, 0, true, Integer.MAX_VALUE);
        joined(INT_MIN, INT_MIN, 0, true, 0);
        joined(LOW_BITS, 1, 0, true, 0);
        joined(LOW_BITS, LOW_BITS, 0, true, -2);
    }

    private static void whats() {
        for (boolean isInt : new boolean[] {false, true}) {
            joined(3, 4, 0, isInt, 7);
            joined(3, 4, 1, isInt, 4);
            joined(3, 4, 2, isInt, 3);
            joined(4, 3, 0, isInt, 7);
            joined(4, 3, 1, isInt, 4);
            joined(4, 3, 2, isInt, 3);
            joined(4, 4, 1, isInt, 4);
            joined(4, 4, 2, isInt, 4);
            joined(0, 0, 0, isInt, 0);
        }
    }

    private static void intsJoined() {
        long big = 9L << 32;
        joined(big + 1, 2, 0, true, 3);
        joined(1, big + 2, 0, true, 3);
        joined(big + 1, 2, 1, true, 2);
        joined(big + 2, 1, 1, true, 2);
        joined(1, big + 2, 2, true, 1);
        joined(big + 1, big + 2, 2, true, 1);
        joined(3, big + 2, 1, true, 3);
        joined(3, 5 - big, 2, true, 3);
        joined(5 - big, 3, 1, true, 5);
        joined(big, big, 0, true, 0);
        joined(LOW_BITS, LOW_BITS, 1, true, -1);
        joined(MIN, 5, 2, true, 0);
        joined(MIN, 5, 1, true, 5);
    }

    private static void joinAnswers() {
        for (boolean isInt : new boolean[] {false, true}) {
            Due.is("the sum with 0", Bench.of(5, 0).join(0, 1, 0, isInt), false);
            Due.is("the sum with 1", Bench.of(5, 1).join(0, 1, 0, isInt), true);
            Due.is("twice 0", Bench.of(0).join(0, 0, 0, isInt), false);
            Due.is("the greater one already", Bench.of(5, 4).join(0, 1, 1, isInt), false);
            Due.is("the greater one", Bench.of(5, 6).join(0, 1, 1, isInt), true);
            Due.is("the smaller one already", Bench.of(5, 6).join(0, 1, 2, isInt), false);
            Due.is("the smaller one", Bench.of(5, 4).join(0, 1, 2, isInt), true);
            Due.is("the same one", Bench.of(5, 5).join(0, 1, 1, isInt), false);
        }
        Due.is("twice 2^63", Bench.of(MIN).join(0, 0, 0, false), true);
        Due.is("HIGH alone by a sum", Bench.of(5, 1L << 32).join(0, 1, 0, false), true);
        Due.is("HIGH alone", Bench.of((1L << 32) + 5, 0).join(0, 1, 0, true), true);
        Due.is("HIGH alone, by the first bit", Bench.of(LOW_BITS, 0).join(0, 1, 2, true), true);
        Due.is("HIGH of the other one", Bench.of(5, (1L << 32) + 5).join(0, 1, 1, true), false);
    }

    private static void nobodyOpens() {
        Radixbench bench = Range.bench();
        String before = Bench.state(bench);
        bench.knock();
        Due.is("all but the knocks", Bench.state(bench), before.replaceFirst("0$", "1"));
        Radixbench full = Bench.typed("-".repeat(70));
        full.knock();
        Due.is("a full text", full.text(), "-".repeat(70));
    }

    private static void knockAnswers() {
        Radixbench bench = new Radixbench();
        for (int often = 1; often <= 510; often++) {
            Due.is("knock " + often, bench.knock(), often);
        }
        Due.is("and so asked", bench.bench(4), 510);
        Due.is("of another bench", new Radixbench().knock(), 1);
    }
}
