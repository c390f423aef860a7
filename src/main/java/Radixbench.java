/** A bench for whole numbers of 32 and of 64 bits and for their texts; shared/DOC.md says each call's answer. */
public final class Radixbench {
    private static final int CELLS = 8;
    private static final int MOST_SIGNS = 70;
    private static final int LEAST_RADIX = 2;
    private static final int GREATEST_RADIX = 36;
    private static final int KINDS = 4;
    private static final int SIGNED_INT = 0;
    private static final int UNSIGNED_INT = 1;
    private static final int SIGNED_LONG = 2;
    private static final int MINUS = 36;
    private static final int PLUS = 37;
    private static final int NONE = -1;
    private static final long INT_BITS = 0xFFFFFFFFL;

    private final long[] cells;
    private final Row text;
    // What is only asked is written here, so that isSound() and digest() make no objects.
    private final Row spare;
    private int faults;
    private int reads;
    private int writes;
    private int knocks;

    public Radixbench() {
        cells = new long[CELLS];
        text = new Row();
        spare = new Row();
    }

    // ---- cells and text

    public int put(int cell, int high, int low) throws IndexOutOfBoundsException {
        checkCell(cell);
        cells[cell] = ((long) high << 32) | (low & INT_BITS);
        return Long.bitCount(cells[cell]);
    }

    public boolean copy(int to, int from) throws IndexOutOfBoundsException {
        checkCell(to);
        checkCell(from);
        return become(to, cells[from]);
    }

    public int type(int sign, boolean isGreat) throws IllegalArgumentException, IllegalStateException {
        if (sign < 0 || sign > PLUS) {
            throw new IllegalArgumentException("no such sign");
        }
        if (text.isFull()) {
            throw new IllegalStateException("the text is full");
        }
        text.add(Row.signOf(sign, isGreat));
        return text.size();
    }

    public int erase() throws IllegalStateException {
        if (text.size() == 0) {
            throw new IllegalStateException("the text is empty");
        }
        text.dropLast();
        return text.size();
    }

    public int clear() {
        int had = text.size();
        text.empty();
        return had;
    }

    // ---- reading and writing

    public int read(int cell, int radix, int kind) throws IndexOutOfBoundsException, IllegalArgumentException {
        checkCell(cell);
        checkRadixAndKind(radix, kind);
        reads++;
        if (!text.isNumberOf(radix, kind)) {
            faults++;
            return 0;
        }
        become(cell, setting(text.numberHeld(radix), isOfInt(kind)));
        return 1;
    }

    public int write(int cell, int radix, int kind) throws IndexOutOfBoundsException, IllegalArgumentException {
        checkCell(cell);
        checkRadixAndKind(radix, kind);
        writes++;
        tellInto(text, cell, radix, kind);
        return text.size();
    }

    public int bits(int cell, int base, boolean isInt) throws IndexOutOfBoundsException, IllegalArgumentException {
        checkCell(cell);
        checkWhat(base, 2);
        writes++;
        text.tell(unsignedOf(cell, isInt), radixOfBase(base), false);
        return text.size();
    }

    // ---- numbers

    public boolean divide(int cell, int by, boolean isInt) throws IndexOutOfBoundsException, IllegalStateException {
        checkCell(cell);
        checkCell(by);
        checkDivisor(by, isInt);
        long number = unsignedOf(cell, isInt);
        long divisor = unsignedOf(by, isInt);
        long quotient = Unsigned.quotient(number, divisor);
        become(cell, setting(quotient, isInt));
        return number != quotient * divisor;
    }

    public boolean rest(int cell, int by, boolean isInt) throws IndexOutOfBoundsException, IllegalStateException {
        checkCell(cell);
        checkCell(by);
        checkDivisor(by, isInt);
        long number = unsignedOf(cell, isInt);
        long divisor = unsignedOf(by, isInt);
        long left = number - Unsigned.quotient(number, divisor) * divisor;
        become(cell, setting(left, isInt));
        return left == 0;
    }

    public boolean turn(int cell, int places, boolean isInt) throws IndexOutOfBoundsException {
        checkCell(cell);
        long number = cells[cell];
        if (isInt) {
            return become(cell, Integer.rotateLeft((int) number, places));
        }
        return become(cell, Long.rotateLeft(number, places));
    }

    public boolean about(int cell, boolean isBytes, boolean isInt) throws IndexOutOfBoundsException {
        checkCell(cell);
        long number = cells[cell];
        if (isInt) {
            int low = (int) number;
            return become(cell, isBytes ? Integer.reverseBytes(low) : Integer.reverse(low));
        }
        return become(cell, isBytes ? Long.reverseBytes(number) : Long.reverse(number));
    }

    public int pick(int cell, boolean isHighest, boolean isInt) throws IndexOutOfBoundsException {
        checkCell(cell);
        long number = unsignedOf(cell, isInt);
        if (number == 0) {
            become(cell, 0);
            return NONE;
        }
        int place = isHighest ? 63 - Long.numberOfLeadingZeros(number) : Long.numberOfTrailingZeros(number);
        become(cell, setting(1L << place, isInt));
        return place;
    }

    public boolean join(int cell, int other, int what, boolean isInt)
            throws IndexOutOfBoundsException, IllegalArgumentException {
        checkCell(cell);
        checkCell(other);
        checkWhat(what, 2);
        long one = signedOf(cell, isInt);
        long two = signedOf(other, isInt);
        long joined = what == 0 ? one + two : what == 1 ? Math.max(one, two) : Math.min(one, two);
        return become(cell, setting(joined, isInt));
    }

    public int knock() {
        knocks++;
        return knocks;
    }

    // ---- what is asked

    public int high(int cell) throws IndexOutOfBoundsException {
        checkCell(cell);
        return highOf(cells[cell]);
    }

    public int low(int cell) throws IndexOutOfBoundsException {
        checkCell(cell);
        return (int) cells[cell];
    }

    public int count(int cell, int what, boolean isInt) throws IndexOutOfBoundsException, IllegalArgumentException {
        checkCell(cell);
        checkWhat(what, 3);
        return isInt ? countOfInt((int) cells[cell], what) : countOfLong(cells[cell], what);
    }

    public int compare(int one, int other, boolean isUnsigned, boolean isInt) throws IndexOutOfBoundsException {
        checkCell(one);
        checkCell(other);
        long first = isUnsigned ? unsignedOf(one, isInt) : signedOf(one, isInt);
        long second = isUnsigned ? unsignedOf(other, isInt) : signedOf(other, isInt);
        if (first == second) {
            return 0;
        }
        boolean isLess = isUnsigned ? Unsigned.isLess(first, second) : first < second;
        return isLess ? -1 : 1;
    }

    public String text() {
        return text.told();
    }

    public int digit(int at, int radix) throws IndexOutOfBoundsException, IllegalArgumentException {
        if (at < 0 || at >= text.size()) {
            throw new IndexOutOfBoundsException("no such place");
        }
        checkRadix(radix);
        return text.digitAt(at, radix);
    }

    public int bench(int what) throws IllegalArgumentException {
        checkWhat(what, 4);
        switch (what) {
            case 0:
                return text.size();
            case 1:
                return faults;
            case 2:
                return reads;
            case 3:
                return writes;
            default:
                return knocks;
        }
    }

    // ---- what would be

    public boolean isNumber(int radix, int kind) throws IllegalArgumentException {
        checkRadixAndKind(radix, kind);
        return text.isNumberOf(radix, kind);
    }

    public int would(int radix, int kind, boolean isHigh) throws IllegalArgumentException {
        checkRadixAndKind(radix, kind);
        if (!text.isNumberOf(radix, kind)) {
            return 0;
        }
        long set = setting(text.numberHeld(radix), isOfInt(kind));
        return isHigh ? highOf(set) : (int) set;
    }

    public String written(int cell, int radix, int kind) throws IndexOutOfBoundsException, IllegalArgumentException {
        checkCell(cell);
        checkRadixAndKind(radix, kind);
        tellInto(spare, cell, radix, kind);
        return spare.told();
    }

    public int same(int radix, int kind) throws IllegalArgumentException {
        checkRadixAndKind(radix, kind);
        if (!text.isNumberOf(radix, kind)) {
            return 0;
        }
        long number = text.numberHeld(radix);
        int set = 0;
        for (int cell = 0; cell < CELLS; cell++) {
            if (isSameOf(kind, cells[cell], number)) {
                set |= 1 << cell;
            }
        }
        return set;
    }

    public boolean isSound() {
        for (int cell = 0; cell < CELLS; cell++) {
            long number = cells[cell];
            long next = cells[(cell + 1) % CELLS];
            if (!isReadBack(cell) || !isDivided(number, next) || !isTurnedBack(number)) {
                return false;
            }
            if (Long.bitCount(number) != Integer.bitCount(highOf(number)) + Integer.bitCount((int) number)) {
                return false;
            }
        }
        return true;
    }

    public long digest() {
        long sum = 8111;
        for (int what = 0; what <= 4; what++) {
            sum = sum * 31 + bench(what);
        }
        for (int cell = 0; cell < CELLS; cell++) {
            sum = sumOfCell(sum, cell);
        }
        for (int at = 0; at < text.size(); at++) {
            sum = sum * 31 + text.digitAt(at, GREATEST_RADIX);
        }
        for (int kind = 0; kind < KINDS; kind++) {
            sum = sum * 31 + would(10, kind, true);
            sum = sum * 31 + would(10, kind, false);
            tellInto(spare, 0, 7, kind);
            sum = sum * 31 + spare.size();
        }
        sum = sum * 31 + same(16, SIGNED_LONG);
        return sum * 31 + (isSound() ? 1 : 0);
    }

    private long sumOfCell(long before, int cell) {
        long number = cells[cell];
        long sum = before * 31 + highOf(number);
        sum = sum * 31 + (int) number;
        for (int what = 0; what <= 3; what++) {
            sum = sum * 31 + countOfLong(number, what);
        }
        for (int what = 0; what <= 3; what++) {
            sum = sum * 31 + countOfInt((int) number, what);
        }
        return sum;
    }

    // ---- what is refused

    private static void checkCell(int cell) {
        if (cell < 0 || cell >= CELLS) {
            throw new IndexOutOfBoundsException("no such cell");
        }
    }

    private static void checkRadix(int radix) {
        if (radix < LEAST_RADIX || radix > GREATEST_RADIX) {
            throw new IllegalArgumentException("no such radix");
        }
    }

    private static void checkRadixAndKind(int radix, int kind) {
        checkRadix(radix);
        checkWhat(kind, KINDS - 1);
    }

    private static void checkWhat(int what, int greatest) {
        if (what < 0 || what > greatest) {
            throw new IllegalArgumentException("no such choice");
        }
    }

    private void checkDivisor(int by, boolean isInt) {
        if (unsignedOf(by, isInt) == 0) {
            throw new IllegalStateException("division by 0");
        }
    }

    // ---- cells as numbers

    private boolean become(int cell, long number) {
        boolean isChanged = cells[cell] != number;
        cells[cell] = number;
        return isChanged;
    }

    // A cell set to an int, to an unsigned one too, bears the int's first bit all over its high half.
    private static long setting(long number, boolean isInt) {
        return isInt ? (int) number : number;
    }

    private long signedOf(int cell, boolean isInt) {
        return setting(cells[cell], isInt);
    }

    private long unsignedOf(int cell, boolean isInt) {
        return isInt ? cells[cell] & INT_BITS : cells[cell];
    }

    private static int highOf(long number) {
        return (int) (number >> 32);
    }

    private static boolean isOfInt(int kind) {
        return kind == SIGNED_INT || kind == UNSIGNED_INT;
    }

    private static boolean isSigned(int kind) {
        return kind == SIGNED_INT || kind == SIGNED_LONG;
    }

    private static boolean isSameOf(int kind, long one, long other) {
        return setting(one, isOfInt(kind)) == setting(other, isOfInt(kind));
    }

    private void tellInto(Row row, int cell, int radix, int kind) {
        boolean isInt = isOfInt(kind);
        boolean isSigned = isSigned(kind);
        row.tell(isSigned ? signedOf(cell, isInt) : unsignedOf(cell, isInt), radix, isSigned);
    }

    private static int radixOfBase(int base) {
        return base == 0 ? 2 : base == 1 ? 8 : 16;
    }

    private static int countOfInt(int number, int what) {
        switch (what) {
            case 0:
                return Integer.bitCount(number);
            case 1:
                return Integer.numberOfLeadingZeros(number);
            case 2:
                return Integer.numberOfTrailingZeros(number);
            default:
                return Integer.signum(number);
        }
    }

    private static int countOfLong(long number, int what) {
        switch (what) {
            case 0:
                return Long.bitCount(number);
            case 1:
                return Long.numberOfLeadingZeros(number);
            case 2:
                return Long.numberOfTrailingZeros(number);
            default:
                return Long.signum(number);
        }
    }

    // ---- what must be so

    private boolean isReadBack(int cell) {
        for (int radix = LEAST_RADIX; radix <= GREATEST_RADIX; radix++) {
            for (int kind = 0; kind < KINDS; kind++) {
                tellInto(spare, cell, radix, kind);
                if (!spare.isNumberOf(radix, kind) || !isSameOf(kind, cells[cell], spare.numberHeld(radix))) {
                    return false;
                }
            }
        }
        return true;
    }

    private static boolean isDivided(long number, long by) {
        if (by == 0) {
            return true;
        }
        long quotient = Unsigned.quotient(number, by);
        long left = number - quotient * by;
        return quotient * by + left == number && Unsigned.isLess(left, by);
    }

    private static boolean isTurnedBack(long number) {
        for (int places = 0; places < 64; places++) {
            if (Long.rotateLeft(Long.rotateLeft(number, places), -places) != number) {
                return false;
            }
        }
        return Long.reverse(Long.reverse(number)) == number && Long.reverseBytes(Long.reverseBytes(number)) == number;
    }

    // Numbers of 64 bits without a sign.
    private static final class Unsigned {
        static boolean isLess(long one, long other) {
            return one + Long.MIN_VALUE < other + Long.MIN_VALUE;
        }

        static long quotient(long number, long by) {
            if (by == 0) {
                return 0;
            }
            if (by < 0) {
                return isLess(number, by) ? 0 : 1;
            }
            // The machine divides with signs: half the number has none, and what the halving
            // lost is at most one more time the divisor.
            long quotient = ((number >>> 1) / by) << 1;
            return isLess(number - quotient * by, by) ? quotient : quotient + 1;
        }
    }

    // A row of signs, made once and written anew as often as one likes.
    private static final class Row {
        private final char[] signs;
        private int size;

        Row() {
            signs = new char[MOST_SIGNS];
        }

        int size() {
            return size;
        }

        boolean isFull() {
            return size >= MOST_SIGNS;
        }

        void add(char sign) {
            if (size < MOST_SIGNS) {
                signs[size] = sign;
                size++;
            }
        }

        void dropLast() {
            if (size > 0) {
                size--;
            }
        }

        void empty() {
            size = 0;
        }

        String told() {
            StringBuilder builder = new StringBuilder();
            for (int at = 0; at < size; at++) {
                builder.append(signs[at]);
            }
            return builder.toString();
        }

        static char signOf(int sign, boolean isGreat) {
            if (sign < 10) {
                return (char) ('0' + sign);
            }
            if (sign < MINUS) {
                return (char) ((isGreat ? 'A' : 'a') + sign - 10);
            }
            return sign == MINUS ? '-' : '+';
        }

        static int worthOf(char sign) {
            if (sign >= '0' && sign <= '9') {
                return sign - '0';
            }
            if (sign >= 'a' && sign <= 'z') {
                return sign - 'a' + 10;
            }
            if (sign >= 'A' && sign <= 'Z') {
                return sign - 'A' + 10;
            }
            return NONE;
        }

        int digitAt(int at, int radix) {
            if (at < 0 || at >= size) {
                return NONE;
            }
            int worth = worthOf(signs[at]);
            return worth < radix ? worth : NONE;
        }

        boolean isNumberOf(int radix, int kind) {
            boolean isBelow = startsWith('-');
            if (isBelow && !isSigned(kind)) {
                return false;
            }
            int first = firstDigit();
            return first < size && isWithin(first, radix, greatest(kind, isBelow));
        }

        // Told only of a text that is a number: what is below 0 is then right by wrap-around.
        long numberHeld(int radix) {
            long number = 0;
            for (int at = firstDigit(); at < size; at++) {
                number = number * radix + digitAt(at, radix);
            }
            return startsWith('-') ? -number : number;
        }

        private boolean startsWith(char sign) {
            return size > 0 && signs[0] == sign;
        }

        private int firstDigit() {
            return startsWith('-') || startsWith('+') ? 1 : 0;
        }

        private static long greatest(int kind, boolean isBelow) {
            switch (kind) {
                case SIGNED_INT:
                    return isBelow ? 1L << 31 : (1L << 31) - 1;
                case UNSIGNED_INT:
                    return INT_BITS;
                case SIGNED_LONG:
                    return isBelow ? Long.MIN_VALUE : Long.MAX_VALUE;
                default:
                    return -1L;
            }
        }

        // Each place is looked at before it is taken in, for the 64 bits would hide what goes beyond them.
        private boolean isWithin(int first, int radix, long greatest) {
            long most = Unsigned.quotient(greatest, radix);
            long last = greatest - most * radix;
            long number = 0;
            for (int at = first; at < size; at++) {
                int digit = digitAt(at, radix);
                if (digit == NONE || Unsigned.isLess(most, number) || (number == most && digit > last)) {
                    return false;
                }
                number = number * radix + digit;
            }
            return true;
        }

        void tell(long number, int radix, boolean isSigned) {
            boolean isBelow = isSigned && number < 0;
            // -2^63 stays as it is, and without a sign that is 2^63, as it must be.
            long left = isBelow ? -number : number;
            size = 0;
            for (int place = 0; place < 64 && (place == 0 || left != 0); place++) {
                long quotient = Unsigned.quotient(left, radix);
                add(signOf((int) (left - quotient * radix), false));
                left = quotient;
            }
            if (isBelow) {
                add('-');
            }
            turnRound();
        }

        private void turnRound() {
            for (int front = 0, back = size - 1; front < back; front++, back--) {
                char sign = signs[front];
                signs[front] = signs[back];
                signs[back] = sign;
            }
        }
    }
}
