import java.util.ArrayList;
import java.util.List;

/** The Description's three rules of what changes nothing and of which exception comes first, over every call. */
final class RefusalSentences {
    private static final int[] NO_CELLS = {-1, 8, Integer.MIN_VALUE, Integer.MAX_VALUE};
    private static final int[] NO_RADIXES = {1, 37, Integer.MIN_VALUE, Integer.MAX_VALUE};
    private static final int[] NO_KINDS = {-1, 4, Integer.MIN_VALUE, Integer.MAX_VALUE};
    private static final boolean[] BOTH = {false, true};

    private RefusalSentences() {
    }

    /** Benches of every state that a call looks at: empty and full texts, numbers and none, cells of 0 and others. */
    private static List<Radixbench> benches() {
        List<Radixbench> benches = new ArrayList<>();
        for (String text : new String[] {"", "+", "-17", "z", "0", "1".repeat(70), "Z".repeat(70), "4294967295"}) {
            Radixbench bench = Bench.of(1, -1, 0, 5L << 32, Long.MIN_VALUE, 0x80000000L, Long.MAX_VALUE, 0);
            Bench.type(bench, text);
            bench.knock();
            bench.read(7, 10, 0);
            benches.add(bench);
        }
        benches.add(new Radixbench());
        return benches;
    }

    private static void unchanged(String name, Radixbench bench, Due.Call call, String want) {
        String state = Bench.state(bench);
        long digest = bench.digest();
        Object answer = Due.of(call);
        if (want != null) {
            Due.is(name, answer, "throws." + want);
        }
        Due.is(name + " changes nothing", Bench.state(bench), state);
        Due.is(name + " changes no checksum", bench.digest(), digest);
    }

    private static void outside(String name, Radixbench bench, Due.Call call) {
        unchanged(name, bench, call, "IndexOutOfBoundsException");
    }

    private static void illegal(String name, Radixbench bench, Due.Call call) {
        unchanged(name, bench, call, "IllegalArgumentException");
    }

    private static void state(String name, Radixbench bench, Due.Call call) {
        unchanged(name, bench, call, "IllegalStateException");
    }

    // ---- what is refused

    static void changesNothing() {
        for (Radixbench bench : benches()) {
            for (int cell : NO_CELLS) {
                noCell(bench, cell);
            }
            for (int radix : NO_RADIXES) {
                noRadixOrKind(bench, radix, 0);
            }
            for (int kind : NO_KINDS) {
                noRadixOrKind(bench, 10, kind);
            }
            noChoice(bench);
            noText(bench);
            noDivisor(bench);
        }
    }

    private static void noCell(Radixbench b, int cell) {
        outside("put", b, () -> b.put(cell, 1, 2));
        outside("copy to", b, () -> b.copy(cell, 1));
        outside("copy from", b, () -> b.copy(1, cell));
        outside("read", b, () -> b.read(cell, 36, 2));
        outside("write", b, () -> b.write(cell, 36, 2));
        outside("bits", b, () -> b.bits(cell, 1, false));
        outside("high", b, () -> b.high(cell));
        outside("low", b, () -> b.low(cell));
        outside("written", b, () -> b.written(cell, 36, 2));
        for (boolean isInt : BOTH) {
            outside("divide", b, () -> b.divide(cell, 1, isInt));
            outside("divide by", b, () -> b.divide(1, cell, isInt));
            outside("rest", b, () -> b.rest(cell, 1, isInt));
            outside("rest by", b, () -> b.rest(1, cell, isInt));
            outside("turn", b, () -> b.turn(cell, 1, isInt));
            outside("about", b, () -> b.about(cell, true, isInt));
            outside("pick", b, () -> b.pick(cell, true, isInt));
            outside("join", b, () -> b.join(cell, 1, 0, isInt));
            outside("join with", b, () -> b.join(1, cell, 0, isInt));
            outside("count", b, () -> b.count(cell, 0, isInt));
            outside("compare", b, () -> b.compare(cell, 1, true, isInt));
            outside("compare with", b, () -> b.compare(1, cell, true, isInt));
        }
    }

    private static void noRadixOrKind(Radixbench b, int radix, int kind) {
        String with = " by " + radix + ", kind " + kind;
        illegal("read" + with, b, () -> b.read(1, radix, kind));
        illegal("write" + with, b, () -> b.write(1, radix, kind));
        illegal("isNumber" + with, b, () -> b.isNumber(radix, kind));
        illegal("would" + with, b, () -> b.would(radix, kind, true));
        illegal("written" + with, b, () -> b.written(1, radix, kind));
        illegal("same" + with, b, () -> b.same(radix, kind));
        if (kind == 0 && b.bench(0) > 0) {
            illegal("digit" + with, b, () -> b.digit(0, radix));
        }
    }

    private static void noChoice(Radixbench b) {
        for (int what : new int[] {-1, 5, Integer.MIN_VALUE, Integer.MAX_VALUE}) {
            illegal("bits", b, () -> b.bits(1, what, false));
            illegal("join", b, () -> b.join(1, 2, what, false));
            illegal("count", b, () -> b.count(1, what, false));
            illegal("bench", b, () -> b.bench(what));
            illegal("type", b, () -> b.type(what == 5 ? 38 : what, false));
        }
    }

    private static void noText(Radixbench b) {
        int size = b.bench(0);
        outside("digit before the first", b, () -> b.digit(-1, 10));
        outside("digit behind the last", b, () -> b.digit(size, 10));
        if (size == 0) {
            state("erase", b, b::erase);
        }
        if (size == 70) {
            state("type", b, () -> b.type(0, false));
        }
    }

    private static void noDivisor(Radixbench b) {
        for (boolean isInt : BOTH) {
            state("divide", b, () -> b.divide(1, 2, isInt));
            state("rest", b, () -> b.rest(1, 2, isInt));
        }
        state("divide by an INT of 0", b, () -> b.divide(1, 4, true));
        state("rest by an INT of 0", b, () -> b.rest(1, 4, true));
    }

    // ---- which refusal comes first

    static void namedFirst() {
        for (Radixbench bench : benches()) {
            for (int cell : NO_CELLS) {
                theCellFirst(bench, cell);
            }
            for (int radix : NO_RADIXES) {
                outside("digit, the place first", bench, () -> bench.digit(-1, radix));
                outside("digit, the place first", bench, () -> bench.digit(bench.bench(0), radix));
            }
        }
        Radixbench full = Bench.typed("0".repeat(70));
        for (int sign : new int[] {-1, 38, Integer.MIN_VALUE, Integer.MAX_VALUE}) {
            illegal("type, the sign first", full, () -> full.type(sign, true));
        }
    }

    private static void theCellFirst(Radixbench b, int cell) {
        for (int radix : NO_RADIXES) {
            outside("read, the cell first", b, () -> b.read(cell, radix, 0));
            outside("write, the cell first", b, () -> b.write(cell, radix, 0));
            outside("written, the cell first", b, () -> b.written(cell, radix, 0));
        }
        for (int kind : NO_KINDS) {
            outside("read, the cell first", b, () -> b.read(cell, 10, kind));
            outside("write, the cell first", b, () -> b.write(cell, 10, kind));
            outside("written, the cell first", b, () -> b.written(cell, 10, kind));
            outside("bits, the cell first", b, () -> b.bits(cell, kind, false));
            outside("join, the cell first", b, () -> b.join(cell, 1, kind, false));
            outside("join, the other one first", b, () -> b.join(1, cell, kind, false));
            outside("count, the cell first", b, () -> b.count(cell, kind, false));
        }
        for (boolean isInt : BOTH) {
            outside("divide, the cell first", b, () -> b.divide(cell, 2, isInt));
            outside("rest, the cell first", b, () -> b.rest(cell, 2, isInt));
        }
    }

    // ---- what is asked

    static void askedChangesNothing() {
        for (Radixbench b : benches()) {
            for (int cell = 0; cell < 8; cell++) {
                int one = cell;
                unchanged("high", b, () -> b.high(one), null);
                unchanged("low", b, () -> b.low(one), null);
                for (int what = 0; what < 4; what++) {
                    int which = what;
                    unchanged("count", b, () -> b.count(one, which, false), null);
                    unchanged("count", b, () -> b.count(one, which, true), null);
                    unchanged("compare", b, () -> b.compare(one, 7 - one, which < 2, which % 2 == 0), null);
                }
            }
            unchanged("text", b, b::text, null);
            for (int at = 0; at < b.bench(0); at++) {
                int place = at;
                unchanged("digit", b, () -> b.digit(place, 2), null);
                unchanged("digit", b, () -> b.digit(place, 36), null);
            }
            for (int what = 0; what < 5; what++) {
                int which = what;
                unchanged("bench", b, () -> b.bench(which), null);
            }
        }
    }

    static void wouldBeChangesNothing() {
        for (Radixbench b : benches()) {
            for (int radix : new int[] {2, 10, 36}) {
                for (int kind = 0; kind < 4; kind++) {
                    int with = kind;
                    unchanged("isNumber", b, () -> b.isNumber(radix, with), null);
                    unchanged("would HIGH", b, () -> b.would(radix, with, true), null);
                    unchanged("would LOW", b, () -> b.would(radix, with, false), null);
                    unchanged("same", b, () -> b.same(radix, with), null);
                    unchanged("written of 0", b, () -> b.written(2, radix, with), null);
                    unchanged("written", b, () -> b.written(4, radix, with), null);
                }
            }
            unchanged("isSound", b, b::isSound, null);
            unchanged("digest", b, b::digest, null);
        }
    }
}
