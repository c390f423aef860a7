import java.util.Random;
import java.util.function.Function;

/** Runs of 512 calls of every kind, the same ones each time; each answer is compared with the Model's. */
public final class RunsTest {
    private static final int RUNS = 400;
    private static final int CALLS = 512;
    private static final int[] EDGES = {0, 1, -1, 2, 7, 10, 255, 36, Integer.MIN_VALUE, Integer.MAX_VALUE, 1 << 16, -36};
    private static final String[] TEXTS = {
        "2147483647", "2147483648", "4294967295", "4294967296", "9223372036854775807", "9223372036854775808",
        "18446744073709551615", "18446744073709551616", "7fffffff", "80000000", "ffffffff", "100000000",
        "7fffffffffffffff", "8000000000000000", "ffffffffffffffff", "10000000000000000", "zz", "3w5e11264sgsf", "0", "1"};

    private final Random random;
    private final Radixbench bench = new Radixbench();
    private final Model model = new Model();
    private final String name;

    private RunsTest(int run) {
        random = new Random(run);
        name = "run " + run;
    }

    public static void main(String[] args) {
        for (int run = 0; run < RUNS; run++) {
            new RunsTest(run).go();
        }
        Due.end();
    }

    private void go() {
        for (int call = 0; call < CALLS; call++) {
            step(random.nextInt(31));
        }
    }

    private void step(int which) {
        int cell = cell();
        int other = random.nextInt(5) == 0 ? cell : cell();
        int radix = radix();
        int kind = among(4);
        boolean isInt = random.nextBoolean();
        boolean isOther = random.nextBoolean();
        if (which < 8) {
            tellOrType(which, cell, other, isOther);
        } else if (which < 17) {
            readOrReckon(which, cell, other, radix, kind, isInt, isOther);
        } else {
            ask(which, cell, other, radix, kind, isInt, isOther);
        }
    }

    private void tellOrType(int which, int cell, int other, boolean isGreat) {
        switch (which) {
            case 0:
            case 1:
                int high = number();
                int low = number();
                same("put " + cell + " " + high + " " + low, noCell(cell),
                    b -> b.put(cell, high, low), m -> m.put(cell, high, low));
                break;
            case 2:
                same("copy " + cell + " " + other, noCells(cell, other), b -> b.copy(cell, other), m -> m.copy(cell, other));
                break;
            case 3:
                int sign = random.nextInt(40) - 1;
                for (int often = random.nextInt(6) == 0 ? 80 : 1; often > 0; often--) {
                    type(sign, isGreat);
                }
                break;
            case 4:
                same("erase", model.textSize() == 0 ? "IllegalStateException" : null, Radixbench::erase, Model::erase);
                break;
            case 5:
                same("clear", null, Radixbench::clear, Model::clear);
                break;
            default:
                typeATextAnew();
        }
    }

    private void typeATextAnew() {
        same("clear", null, Radixbench::clear, Model::clear);
        int front = random.nextInt(4);
        if (front < 2) {
            type(36 + front, false);
        }
        for (int zeros = random.nextInt(8) == 0 ? random.nextInt(60) : 0; zeros > 0; zeros--) {
            type(0, false);
        }
        for (char sign : TEXTS[random.nextInt(TEXTS.length)].toCharArray()) {
            type(Character.digit(sign, 36), random.nextBoolean());
        }
        if (random.nextInt(3) == 0) {
            same("erase", null, Radixbench::erase, Model::erase);
            type(random.nextInt(10), false);
        }
    }

    private void type(int sign, boolean isGreat) {
        String due = sign < 0 || sign > 37 ? "IllegalArgumentException"
            : model.textSize() == 70 ? "IllegalStateException" : null;
        same("type " + sign, due, b -> b.type(sign, isGreat), m -> m.type(sign, isGreat));
    }

    private void readOrReckon(int which, int cell, int other, int radix, int kind, boolean isInt, boolean isOther) {
        String due = first(noCell(cell), noRadixOrKind(radix, kind));
        switch (which) {
            case 8:
                same("read " + cell + " " + radix + " " + kind, due,
                    b -> b.read(cell, radix, kind), m -> m.read(cell, radix, kind));
                break;
            case 9:
                same("write " + cell + " " + radix + " " + kind, due,
                    b -> b.write(cell, radix, kind), m -> m.write(cell, radix, kind));
                break;
            case 10:
                int base = among(3);
                same("bits " + cell + " " + base + " " + isInt, first(noCell(cell), noChoice(base, 3)),
                    b -> b.bits(cell, base, isInt), m -> m.bits(cell, base, isInt));
                break;
            case 11:
                same("divide " + cell + " " + other + " " + isInt, noDivisor(cell, other, isInt),
                    b -> b.divide(cell, other, isInt), m -> m.divide(cell, other, isInt));
                break;
            case 12:
                same("rest " + cell + " " + other + " " + isInt, noDivisor(cell, other, isInt),
                    b -> b.rest(cell, other, isInt), m -> m.rest(cell, other, isInt));
                break;
            case 13:
                int places = random.nextBoolean() ? number() : random.nextInt(140) - 70;
                same("turn " + cell + " " + places + " " + isInt, noCell(cell),
                    b -> b.turn(cell, places, isInt), m -> m.turn(cell, places, isInt));
                break;
            case 14:
                same("about " + cell + " " + isOther + " " + isInt, noCell(cell),
                    b -> b.about(cell, isOther, isInt), m -> m.about(cell, isOther, isInt));
                break;
            case 15:
                same("pick " + cell + " " + isOther + " " + isInt, noCell(cell),
                    b -> b.pick(cell, isOther, isInt), m -> m.pick(cell, isOther, isInt));
                break;
            default:
                int what = among(3);
                same("join " + cell + " " + other + " " + what + " " + isInt,
                    first(noCells(cell, other), noChoice(what, 3)),
                    b -> b.join(cell, other, what, isInt), m -> m.join(cell, other, what, isInt));
        }
    }

    private void ask(int which, int cell, int other, int radix, int kind, boolean isInt, boolean isOther) {
        String due = noRadixOrKind(radix, kind);
        int what = among(5);
        switch (which) {
            case 17:
                same("knock", null, Radixbench::knock, Model::knock);
                break;
            case 18:
            case 19:
                same("high " + cell, noCell(cell), b -> b.high(cell), m -> m.high(cell));
                same("low " + cell, noCell(cell), b -> b.low(cell), m -> m.low(cell));
                break;
            case 20:
                same("count " + cell + " " + what + " " + isInt, first(noCell(cell), noChoice(what, 4)),
                    b -> b.count(cell, what, isInt), m -> m.count(cell, what, isInt));
                break;
            case 21:
                same("compare " + cell + " " + other + " " + isOther + " " + isInt, noCells(cell, other),
                    b -> b.compare(cell, other, isOther, isInt), m -> m.compare(cell, other, isOther, isInt));
                break;
            case 22:
                same("text", null, Radixbench::text, Model::text);
                break;
            case 23:
                int at = random.nextInt(model.textSize() + 2) - 1;
                same("digit " + at + " " + radix,
                    at < 0 || at >= model.textSize() ? "IndexOutOfBoundsException" : noRadixOrKind(radix, 0),
                    b -> b.digit(at, radix), m -> m.digit(at, radix));
                break;
            case 24:
                same("bench " + what, noChoice(what, 5), b -> b.bench(what), m -> m.bench(what));
                break;
            case 25:
                same("isNumber " + radix + " " + kind, due, b -> b.isNumber(radix, kind), m -> m.isNumber(radix, kind));
                break;
            case 26:
                same("would " + radix + " " + kind + " " + isOther, due,
                    b -> b.would(radix, kind, isOther), m -> m.would(radix, kind, isOther));
                break;
            case 27:
                same("written " + cell + " " + radix + " " + kind, first(noCell(cell), due),
                    b -> b.written(cell, radix, kind), m -> m.written(cell, radix, kind));
                break;
            case 28:
                same("same " + radix + " " + kind, due, b -> b.same(radix, kind), m -> m.same(radix, kind));
                break;
            case 29:
                same("isSound", null, Radixbench::isSound, Model::isSound);
                break;
            default:
                same("digest", null, Radixbench::digest, Model::digest);
        }
    }

    // ---- what is due

    private void same(String call, String due, Function<Radixbench, Object> got, Function<Model, Object> want) {
        Object wanted = due == null ? want.apply(model) : "throws." + due;
        Due.is(name + " " + call, Due.of(() -> got.apply(bench)), wanted);
        Due.is(name + " text after " + call, bench.text(), model.text());
    }

    private static String first(String one, String other) {
        return one != null ? one : other;
    }

    private static String noCell(int cell) {
        return cell < 0 || cell > 7 ? "IndexOutOfBoundsException" : null;
    }

    private static String noCells(int one, int other) {
        return first(noCell(one), noCell(other));
    }

    private static String noChoice(int what, int choices) {
        return what < 0 || what >= choices ? "IllegalArgumentException" : null;
    }

    private static String noRadixOrKind(int radix, int kind) {
        return radix < 2 || radix > 36 ? "IllegalArgumentException" : noChoice(kind, 4);
    }

    private String noDivisor(int cell, int by, boolean isInt) {
        String due = noCells(cell, by);
        return due != null ? due : model.isZero(by, isInt) ? "IllegalStateException" : null;
    }

    // ---- arguments, now and then wrong ones

    private int cell() {
        return random.nextInt(40) == 0 ? wrong(8) : random.nextInt(8);
    }

    private int among(int choices) {
        return random.nextInt(30) == 0 ? wrong(choices) : random.nextInt(choices);
    }

    private int radix() {
        switch (random.nextInt(12)) {
            case 0:
                return new int[] {-1, 0, 1, 37, 38, Integer.MIN_VALUE, Integer.MAX_VALUE}[random.nextInt(7)];
            case 1:
            case 2:
            case 3:
                return 10;
            case 4:
            case 5:
                return 16;
            case 6:
                return 36;
            default:
                return 2 + random.nextInt(35);
        }
    }

    private int wrong(int bound) {
        return new int[] {-1, bound, bound + 1, Integer.MIN_VALUE, Integer.MAX_VALUE}[random.nextInt(5)];
    }

    private int number() {
        switch (random.nextInt(4)) {
            case 0:
                return EDGES[random.nextInt(EDGES.length)];
            case 1:
                return random.nextInt(2) - random.nextInt(2);
            case 2:
                return 1 << random.nextInt(32);
            default:
                return random.nextInt();
        }
    }
}
