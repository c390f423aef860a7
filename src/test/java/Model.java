import java.math.BigInteger;

/**
 * The document told a second time, by other means: CELLS are rows of 64 signs "0" and "1", the numbers are
 * BigIntegers. It knows no exceptions: RunsTest asks it only what the document answers.
 */
final class Model {
    private static final String SIGNS = "0123456789abcdefghijklmnopqrstuvwxyz-+";

    private final String[] cells = new String[8];
    private String text = "";
    private int faults;
    private int reads;
    private int writes;
    private int knocks;

    Model() {
        for (int cell = 0; cell < 8; cell++) {
            cells[cell] = "0".repeat(64);
        }
    }

    int textSize() {
        return text.length();
    }

    boolean isZero(int cell, boolean isInt) {
        return unsigned(seen(cell, isInt)).signum() == 0;
    }

    // ---- the calls

    Object put(int cell, int high, int low) {
        String bits = row(BigInteger.valueOf(high), 32) + row(BigInteger.valueOf(low), 32);
        cells[cell] = bits;
        return ones(bits);
    }

    Object copy(int to, int from) {
        return become(to, cells[from]);
    }

    Object type(int sign, boolean isGreat) {
        String small = SIGNS.substring(sign, sign + 1);
        text += isGreat ? small.toUpperCase(java.util.Locale.ROOT) : small;
        return text.length();
    }

    Object erase() {
        text = text.substring(0, text.length() - 1);
        return text.length();
    }

    Object clear() {
        int had = text.length();
        text = "";
        return had;
    }

    Object read(int cell, int radix, int kind) {
        reads++;
        BigInteger number = number(radix, kind);
        if (number == null) {
            faults++;
            return 0;
        }
        become(cell, setting(number, kind < 2));
        return 1;
    }

    Object write(int cell, int radix, int kind) {
        writes++;
        text = written(cell, radix, kind).toString();
        return text.length();
    }

    Object bits(int cell, int base, boolean isInt) {
        writes++;
        text = unsigned(seen(cell, isInt)).toString(new int[] {2, 8, 16}[base]);
        return text.length();
    }

    Object divide(int cell, int by, boolean isInt) {
        BigInteger[] both = unsigned(seen(cell, isInt)).divideAndRemainder(unsigned(seen(by, isInt)));
        become(cell, setting(both[0], isInt));
        return both[1].signum() != 0;
    }

    Object rest(int cell, int by, boolean isInt) {
        BigInteger left = unsigned(seen(cell, isInt)).mod(unsigned(seen(by, isInt)));
        become(cell, setting(left, isInt));
        return left.signum() == 0;
    }

    Object turn(int cell, int places, boolean isInt) {
        String bits = seen(cell, isInt);
        int left = (int) Math.floorMod((long) places, (long) bits.length());
        return become(cell, widened(bits.substring(left) + bits.substring(0, left)));
    }

    Object about(int cell, boolean isBytes, boolean isInt) {
        String bits = seen(cell, isInt);
        StringBuilder other = new StringBuilder();
        int step = isBytes ? 8 : 1;
        for (int at = bits.length() - step; at >= 0; at -= step) {
            other.append(bits, at, at + step);
        }
        return become(cell, widened(other.toString()));
    }

    Object pick(int cell, boolean isHighest, boolean isInt) {
        String bits = seen(cell, isInt);
        int at = isHighest ? bits.indexOf('1') : bits.lastIndexOf('1');
        if (at < 0) {
            become(cell, "0".repeat(64));
            return -1;
        }
        become(cell, widened("0".repeat(at) + "1" + "0".repeat(bits.length() - at - 1)));
        return bits.length() - 1 - at;
    }

    Object join(int cell, int other, int what, boolean isInt) {
        BigInteger one = signed(seen(cell, isInt));
        BigInteger two = signed(seen(other, isInt));
        BigInteger joined = what == 0 ? one.add(two) : what == 1 ? one.max(two) : one.min(two);
        return become(cell, setting(joined, isInt));
    }

    Object knock() {
        return ++knocks;
    }

    Object high(int cell) {
        return signed(cells[cell].substring(0, 32)).intValueExact();
    }

    Object low(int cell) {
        return signed(cells[cell].substring(32)).intValueExact();
    }

    Object count(int cell, int what, boolean isInt) {
        String bits = seen(cell, isInt);
        int first = bits.indexOf('1');
        int last = bits.lastIndexOf('1');
        switch (what) {
            case 0:
                return ones(bits);
            case 1:
                return first < 0 ? bits.length() : first;
            case 2:
                return last < 0 ? bits.length() : bits.length() - 1 - last;
            default:
                return signed(bits).signum();
        }
    }

    Object compare(int one, int other, boolean isUnsigned, boolean isInt) {
        String first = seen(one, isInt);
        String second = seen(other, isInt);
        return isUnsigned ? unsigned(first).compareTo(unsigned(second)) : signed(first).compareTo(signed(second));
    }

    Object text() {
        return text;
    }

    Object digit(int at, int radix) {
        int worth = SIGNS.indexOf(Character.toLowerCase(text.charAt(at)));
        return worth < 36 && worth < radix ? worth : -1;
    }

    Object bench(int what) {
        return new int[] {text.length(), faults, reads, writes, knocks}[what];
    }

    Object isNumber(int radix, int kind) {
        return number(radix, kind) != null;
    }

    Object would(int radix, int kind, boolean isHigh) {
        BigInteger number = number(radix, kind);
        if (number == null) {
            return 0;
        }
        String bits = setting(number, kind < 2);
        return signed(isHigh ? bits.substring(0, 32) : bits.substring(32)).intValueExact();
    }

    Object written(int cell, int radix, int kind) {
        String bits = seen(cell, kind < 2);
        return (kind % 2 == 0 ? signed(bits) : unsigned(bits)).toString(radix);
    }

    Object same(int radix, int kind) {
        BigInteger number = number(radix, kind);
        int set = 0;
        for (int cell = 0; cell < 8 && number != null; cell++) {
            String bits = seen(cell, kind < 2);
            if (number.equals(kind % 2 == 0 ? signed(bits) : unsigned(bits))) {
                set += (int) Math.pow(2, cell);
            }
        }
        return set;
    }

    Object isSound() {
        return true;
    }

    Object digest() {
        long d = 8111;
        for (int what = 0; what < 5; what++) {
            d = d * 31 + (int) bench(what);
        }
        for (int cell = 0; cell < 8; cell++) {
            d = d * 31 + (int) high(cell);
            d = d * 31 + (int) low(cell);
            for (int k = 0; k < 8; k++) {
                d = d * 31 + (int) count(cell, k % 4, k >= 4);
            }
        }
        for (int at = 0; at < text.length(); at++) {
            d = d * 31 + (int) digit(at, 36);
        }
        for (int kind = 0; kind < 4; kind++) {
            d = d * 31 + (int) would(10, kind, true);
            d = d * 31 + (int) would(10, kind, false);
            d = d * 31 + written(0, 7, kind).toString().length();
        }
        d = d * 31 + (int) same(16, 2);
        return d * 31 + 1;
    }

    // ---- bits and numbers

    private Object become(int cell, String bits) {
        boolean isChanged = !cells[cell].equals(bits);
        cells[cell] = bits;
        return isChanged;
    }

    private String seen(int cell, boolean isInt) {
        return isInt ? cells[cell].substring(32) : cells[cell];
    }

    private static String widened(String bits) {
        return bits.substring(0, 1).repeat(64 - bits.length()) + bits;
    }

    private static String setting(BigInteger number, boolean isInt) {
        return widened(row(number, isInt ? 32 : 64));
    }

    private static String row(BigInteger number, int places) {
        StringBuilder bits = new StringBuilder();
        for (int place = places - 1; place >= 0; place--) {
            bits.append(number.testBit(place) ? '1' : '0');
        }
        return bits.toString();
    }

    private static int ones(String bits) {
        return bits.length() - bits.replace("1", "").length();
    }

    private static BigInteger unsigned(String bits) {
        return new BigInteger(bits, 2);
    }

    private static BigInteger signed(String bits) {
        BigInteger number = unsigned(bits);
        return bits.charAt(0) == '1' ? number.subtract(BigInteger.ONE.shiftLeft(bits.length())) : number;
    }

    private BigInteger number(int radix, int kind) {
        String digits = text;
        boolean isBelow = digits.startsWith("-");
        if (isBelow && kind % 2 != 0) {
            return null;
        }
        if (isBelow || digits.startsWith("+")) {
            digits = digits.substring(1);
        }
        if (digits.isEmpty()) {
            return null;
        }
        for (char sign : digits.toCharArray()) {
            int worth = SIGNS.indexOf(Character.toLowerCase(sign));
            if (worth >= radix) {
                return null;
            }
        }
        BigInteger number = new BigInteger(digits, radix);
        number = isBelow ? number.negate() : number;
        int places = kind < 2 ? 32 : 64;
        BigInteger most = BigInteger.ONE.shiftLeft(kind % 2 == 0 ? places - 1 : places);
        BigInteger least = kind % 2 == 0 ? most.negate() : BigInteger.ZERO;
        return number.compareTo(least) >= 0 && number.compareTo(most) < 0 ? number : null;
    }
}
