/** Promises 10 to 16: divide, rest, turn, about, pick, join, knock. */
public final class NumbersTest {
    private static final long MIN = Long.MIN_VALUE;
    private static final long MAX = Long.MAX_VALUE;
    private static final long LOW_BITS = 0xFFFFFFFFL;

    public static void main(String[] args) {
        divide();
        divideByItself();
        divideRefuses();
        turn();
        about();
        pick();
        join();
        joinRefuses();
        refuseOtherCells();
        knock();
        Due.end();
    }

    private static void areDivided(long number, long by, boolean isInt, long quotient, long rest) {
        String what = number + " by " + by + " isInt " + isInt;
        boolean isRest = (isInt ? rest & LOW_BITS : rest) != 0;
        Radixbench one = Bench.of(number, by);
        Due.is("10 divide " + what, one.divide(0, 1, isInt), isRest);
        Due.is("10 quotient " + what, Bench.cell(one, 0), quotient);
        Due.is("10 the other stays " + what, Bench.cell(one, 1), by);
        Radixbench two = Bench.of(0, 0, 0, by, number);
        Due.is("11 rest " + what, two.rest(4, 3, isInt), !isRest);
        Due.is("11 is that " + what, Bench.cell(two, 4), rest);
        Due.is("11 the other stays " + what, Bench.cell(two, 3), by);
    }

    private static void divide() {
        for (boolean isInt : new boolean[] {false, true}) {
            areDivided(0, 5, isInt, 0, 0);
            areDivided(17, 5, isInt, 3, 2);
            areDivided(15, 5, isInt, 3, 0);
            areDivided(4, 5, isInt, 0, 4);
            areDivided(5, 1, isInt, 5, 0);
            areDivided(-1, -1, isInt, 1, 0);
            areDivided(-2, -1, isInt, 0, -2);
            areDivided(-1, -2, isInt, 1, 1);
            areDivided(-1, 1, isInt, -1, 0);
            areDivided(5, -1, isInt, 0, 5);
        }
        areDivided(-1, 2, false, MAX, 1);
        areDivided(-1, 10, false, 1844674407370955161L, 5);
        areDivided(-1, MIN, false, 1, MAX);
        areDivided(MIN, -1, false, 0, MIN);
        areDivided(MIN, MAX, false, 1, 1);
        areDivided(-1, MAX, false, 2, 1);
        areDivided(-2, MAX, false, 2, 0);
        areDivided(-3, MAX, false, 1, MAX - 1);
        areDivided(MAX, MIN, false, 0, MAX);
        areDivided(MIN, 3, false, 3074457345618258602L, 2);
        areDivided(-1, 1L << 32, false, LOW_BITS, LOW_BITS);
        areDivided(-1, 2, true, 2147483647L, 1);
        areDivided(0x80000000L, 1, true, -2147483648L, 0);
        areDivided(0x80000000L, 0xFFFFFFFFL, true, 0, -2147483648L);
        areDivided(0xFFFFFFFFL, 0x7FFFFFFFL, true, 2, 1);
        areDivided((9L << 32) + 17, (3L << 32) + 5, true, 3, 2);
        areDivided((9L << 32) + 17, (3L << 32) + 17, true, 1, 0);
        areDivided((9L << 32) + 17, 1, true, 17, 0);
    }

    private static void divideByItself() {
        for (boolean isInt : new boolean[] {false, true}) {
            Radixbench bench = Bench.of(-7, -7);
            Due.is("10 by itself", bench.divide(0, 0, isInt), false);
            Due.is("10 by itself", Bench.cell(bench, 0), 1L);
            Due.is("11 by itself", bench.rest(1, 1, isInt), true);
            Due.is("11 by itself", Bench.cell(bench, 1), 0L);
            Due.state("10 0 by itself", () -> bench.divide(1, 1, isInt));
            Due.state("11 0 by itself", () -> bench.rest(1, 1, isInt));
        }
    }

    private static void divideRefuses() {
        Radixbench bench = Bench.of(5, 0, 3L << 32, -1);
        String before = Bench.state(bench);
        for (boolean isInt : new boolean[] {false, true}) {
            Due.state("10 by 0", () -> bench.divide(0, 1, isInt));
            Due.state("11 by 0", () -> bench.rest(0, 1, isInt));
            for (int cell : Bench.NO_CELLS) {
                Due.outside("10 cell " + cell, () -> bench.divide(cell, 0, isInt));
                Due.outside("10 by cell " + cell, () -> bench.divide(0, cell, isInt));
                Due.outside("10 the cell first " + cell, () -> bench.divide(cell, 1, isInt));
                Due.outside("11 cell " + cell, () -> bench.rest(cell, 0, isInt));
                Due.outside("11 by cell " + cell, () -> bench.rest(0, cell, isInt));
                Due.outside("11 the cell first " + cell, () -> bench.rest(cell, 1, isInt));
            }
        }
        Due.state("10 by an int of 0", () -> bench.divide(0, 2, true));
        Due.state("11 by an int of 0", () -> bench.rest(0, 2, true));
        Due.is("10 unchanged", Bench.state(bench), before);
        Due.is("10 not 0 as a whole", bench.divide(0, 2, false), true);
        Due.is("11 not 0 as a whole", bench.rest(3, 2, false), false);
        Due.is("11 not 0 as a whole", Bench.cell(bench, 3), (1L << 32) - 1);
    }

    private static void isTurned(long number, int places, boolean isInt, long want) {
        String what = "12 turn " + number + " by " + places + " isInt " + isInt;
        Radixbench bench = Bench.of(0, number);
        Due.is(what, bench.turn(1, places, isInt), number != want);
        Due.is(what + " is", Bench.cell(bench, 1), want);
    }

    private static void turn() {
        isTurned(1, 1, false, 2);
        isTurned(1, -1, false, MIN);
        isTurned(MIN, 1, false, 1);
        isTurned(MIN, -1, false, 1L << 62);
        isTurned(0x123456789abcdef0L, 4, false, 0x23456789abcdef01L);
        isTurned(0x123456789abcdef0L, -4, false, 0x0123456789abcdefL);
        isTurned(0x123456789abcdef0L, 32, false, 0x9abcdef012345678L);
        isTurned(3, 64, false, 3);
        isTurned(3, -64, false, 3);
        isTurned(3, 65, false, 6);
        isTurned(6, -65, false, 3);
        isTurned(3, 0, false, 3);
        isTurned(3, 1 << 20, false, 3);
        isTurned(3, Integer.MIN_VALUE, false, 3);
        isTurned(3, Integer.MAX_VALUE, false, (1L << 63) + 1);
        isTurned(-1, 17, false, -1);
        isTurned(0, 5, false, 0);
        isTurned(1, 1, true, 2);
        isTurned(1, -1, true, -2147483648L);
        isTurned(1, 31, true, -2147483648L);
        isTurned(0x80000000L, 1, true, 1);
        isTurned(0x12345678L, 8, true, 0x34567812L);
        isTurned(0x12345678L, -8, true, 0x78123456L);
        isTurned(0x12345678L, 32, true, 0x12345678L);
        isTurned(0x12345678L, 33, true, 0x2468acf0L);
        isTurned(3, -33, true, 1 - 0x80000000L);
        isTurned((5L << 32) + 3, 0, true, 3);
        isTurned((5L << 32) + 3, Integer.MIN_VALUE, true, 3);
        isTurned(0xFFFFFFFFL, 0, true, -1);
        isTurned(7L << 32, 3, true, 0);
        isTurned(-1, 5, true, -1);
    }

    private static void isAbout(long number, boolean isBytes, boolean isInt, long want) {
        String what = "13 about " + number + " isBytes " + isBytes + " isInt " + isInt;
        Radixbench bench = Bench.of(0, 0, number);
        Due.is(what, bench.about(2, isBytes, isInt), number != want);
        Due.is(what + " is", Bench.cell(bench, 2), want);
    }

    private static void about() {
        for (boolean isBytes : new boolean[] {false, true}) {
            isAbout(0, isBytes, false, 0);
            isAbout(0, isBytes, true, 0);
            isAbout(-1, isBytes, false, -1);
            isAbout(-1, isBytes, true, -1);
            isAbout(LOW_BITS, isBytes, true, -1);
            isAbout(LOW_BITS, isBytes, false, LOW_BITS << 32);
            isAbout(9L << 32, isBytes, true, 0);
        }
        isAbout(1, false, false, MIN);
        isAbout(1, true, false, 1L << 56);
        isAbout(2, false, false, 1L << 62);
        isAbout(1, false, true, -2147483648L);
        isAbout(1, true, true, 1L << 24);
        isAbout(0x80, true, true, -2147483648L);
        isAbout(0x0102030405060708L, true, false, 0x0807060504030201L);
        isAbout(0x0102030405060708L, false, false, 0x10e060a020c04080L);
        isAbout(0x0102030405060708L, true, true, 0x08070605L);
        isAbout(0x0102030405060708L, false, true, 0x10e060a0L);
        isAbout(0x01020201L, true, true, 0x01020201L);
        isAbout((1L << 32) + 0x01020201L, true, true, 0x01020201L);
        isAbout(0x8000000000000001L, false, false, 0x8000000000000001L);
    }

    private static void isPicked(long number, boolean isHighest, boolean isInt, int place, long want) {
        String what = "14 pick " + number + " isHighest " + isHighest + " isInt " + isInt;
        Radixbench bench = Bench.of(number);
        Due.is(what, bench.pick(0, isHighest, isInt), place);
        Due.is(what + " is", Bench.cell(bench, 0), want);
    }

    private static void pick() {
        isPicked(12, true, false, 3, 8);
        isPicked(12, false, false, 2, 4);
        isPicked(12, true, true, 3, 8);
        isPicked(12, false, true, 2, 4);
        isPicked(1, true, false, 0, 1);
        isPicked(1, false, true, 0, 1);
        isPicked(0, true, false, -1, 0);
        isPicked(0, false, false, -1, 0);
        isPicked(0, true, true, -1, 0);
        isPicked(0, false, true, -1, 0);
        isPicked(5L << 32, true, true, -1, 0);
        isPicked(5L << 32, false, true, -1, 0);
        isPicked(5L << 32, true, false, 34, 1L << 34);
        isPicked(5L << 32, false, false, 32, 1L << 32);
        isPicked((5L << 32) + 6, true, true, 2, 4);
        isPicked((5L << 32) + 6, false, true, 1, 2);
        isPicked(-1, true, false, 63, MIN);
        isPicked(-1, false, false, 0, 1);
        isPicked(MIN, false, false, 63, MIN);
        isPicked(-1, true, true, 31, -2147483648L);
        isPicked(-1, false, true, 0, 1);
        isPicked(0x80000000L, false, true, 31, -2147483648L);
        isPicked(0x80000000L, true, false, 31, 0x80000000L);
        isPicked(-2147483648L, false, false, 31, 0x80000000L);
    }

    private static void isJoined(long one, long two, int what, boolean isInt, long want) {
        String name = "15 join " + one + " and " + two + " what " + what + " isInt " + isInt;
        Radixbench bench = Bench.of(one, two);
        Due.is(name, bench.join(0, 1, what, isInt), one != want);
        Due.is(name + " is", Bench.cell(bench, 0), want);
        Due.is(name + " the other stays", Bench.cell(bench, 1), two);
    }

    private static void join() {
        for (boolean isInt : new boolean[] {false, true}) {
            isJoined(3, 4, 0, isInt, 7);
            isJoined(3, 4, 1, isInt, 4);
            isJoined(3, 4, 2, isInt, 3);
            isJoined(-3, 2, 0, isInt, -1);
            isJoined(-3, 2, 1, isInt, 2);
            isJoined(-3, 2, 2, isInt, -3);
            isJoined(2, -3, 2, isInt, -3);
            isJoined(2, -3, 1, isInt, 2);
            isJoined(5, 0, 0, isInt, 5);
            isJoined(5, 5, 1, isInt, 5);
        }
        isJoined(MAX, 1, 0, false, MIN);
        isJoined(MIN, -1, 0, false, MAX);
        isJoined(MIN, MIN, 0, false, 0);
        isJoined(LOW_BITS, 1, 0, false, 1L << 32);
        isJoined(LOW_BITS, 1, 1, false, LOW_BITS);
        isJoined(MIN, MAX, 1, false, MAX);
        isJoined(MIN, MAX, 2, false, MIN);
        isJoined(2147483647L, 1, 0, true, -2147483648L);
        isJoined(-2147483648L, -1, 0, true, 2147483647L);
        isJoined(LOW_BITS, 1, 0, true, 0);
        isJoined(LOW_BITS, 1, 1, true, 1);
        isJoined(LOW_BITS, 1, 2, true, -1);
        isJoined((4L << 32) + 1, (9L << 32) + 2, 0, true, 3);
        isJoined((4L << 32) + 5, (9L << 32) + 2, 1, true, 5);
        isJoined((4L << 32) + 5, (9L << 32) + 2, 2, true, 2);
        isJoined((4L << 32) + 5, 5, 2, true, 5);
        for (boolean isInt : new boolean[] {false, true}) {
            Radixbench bench = Bench.of(21);
            Due.is("15 with itself", bench.join(0, 0, 0, isInt), true);
            Due.is("15 twice that", Bench.cell(bench, 0), 42L);
            Due.is("15 greater than itself", bench.join(0, 0, 1, isInt), false);
            Due.is("15 smaller than itself", bench.join(0, 0, 2, isInt), false);
        }
    }

    private static void joinRefuses() {
        Radixbench bench = Bench.of(5, 6);
        String before = Bench.state(bench);
        for (boolean isInt : new boolean[] {false, true}) {
            for (int what : new int[] {-1, 3, Integer.MIN_VALUE, Integer.MAX_VALUE}) {
                Due.illegal("15 what " + what, () -> bench.join(0, 1, what, isInt));
            }
            for (int cell : Bench.NO_CELLS) {
                Due.outside("15 cell " + cell, () -> bench.join(cell, 0, 0, isInt));
                Due.outside("15 other " + cell, () -> bench.join(0, cell, 1, isInt));
                Due.outside("15 the cell first " + cell, () -> bench.join(cell, 0, 3, isInt));
                Due.outside("15 the other first " + cell, () -> bench.join(0, cell, -1, isInt));
            }
        }
        Due.is("15 unchanged", Bench.state(bench), before);
    }

    private static void refuseOtherCells() {
        Radixbench bench = Bench.of(5, 6);
        String before = Bench.state(bench);
        for (int cell : Bench.NO_CELLS) {
            for (boolean isInt : new boolean[] {false, true}) {
                Due.outside("12 cell " + cell, () -> bench.turn(cell, 1, isInt));
                Due.outside("13 cell " + cell, () -> bench.about(cell, true, isInt));
                Due.outside("13 cell " + cell, () -> bench.about(cell, false, isInt));
                Due.outside("14 cell " + cell, () -> bench.pick(cell, true, isInt));
                Due.outside("14 cell " + cell, () -> bench.pick(cell, false, isInt));
            }
        }
        Due.is("12 to 14 unchanged", Bench.state(bench), before);
    }

    private static void knock() {
        Radixbench bench = Bench.of(5);
        for (int often = 1; often <= 400; often++) {
            Due.is("16 knock", bench.knock(), often);
        }
        Due.is("16 nobody opens", Bench.state(bench), "'' 5 0 0 0 0 0 0 0 0 0 0 0 400");
    }
}
