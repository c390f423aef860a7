/**
 * Tries a call with every argument of a range and with the ones just outside it, each time on a new bench on which
 * nothing else would be refused: the cells are 1 to 8, the text is "11".
 */
final class Range {
    private Range() {
    }

    /** A call with one argument that is tried. */
    interface Call {
        Object of(Radixbench bench, int argument);
    }

    static void ofCells(Call call) {
        outside(0, 7, call);
    }

    static void ofRadixes(Call call) {
        illegal(2, 36, call);
    }

    static void ofKinds(Call call) {
        illegal(0, 3, call);
    }

    static void outside(int least, int greatest, Call call) {
        is("throws.IndexOutOfBoundsException", least, greatest, call);
    }

    static void illegal(int least, int greatest, Call call) {
        is("throws.IllegalArgumentException", least, greatest, call);
    }

    private static void is(String refusal, int least, int greatest, Call call) {
        for (int argument : new int[] {least - 1, greatest + 1, Integer.MIN_VALUE, Integer.MAX_VALUE}) {
            Radixbench bench = bench();
            Due.is("  with " + argument, Due.of(() -> call.of(bench, argument)), refusal);
            Due.is("  with " + argument + " changes nothing", Bench.state(bench), Bench.state(bench()));
        }
        for (int each = least; each <= greatest; each++) {
            int argument = each;
            String answer = String.valueOf(Due.of(() -> call.of(bench(), argument)));
            Due.is("  with " + argument, answer.startsWith("throws.") ? answer : "an answer", "an answer");
        }
    }

    static Radixbench bench() {
        Radixbench bench = Bench.of(1, 2, 3, 4, 5, 6, 7, 8);
        Bench.type(bench, "11");
        return bench;
    }
}
