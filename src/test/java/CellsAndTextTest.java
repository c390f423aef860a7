/** Promises 1 to 6: a new object, put, copy, type, erase, clear. */
public final class CellsAndTextTest {
    private static final String SEVENTY = "0123456789012345678901234567890123456789012345678901234567890123456789";

    public static void main(String[] args) {
        newObject();
        put();
        copy();
        type();
        typeBeyondTheEnd();
        erase();
        clear();
        Due.end();
    }

    private static void newObject() {
        Radixbench bench = new Radixbench();
        Due.is("1 state", Bench.state(bench), "'' 0 0 0 0 0 0 0 0 0 0 0 0 0");
        Due.is("1 text", bench.text(), "");
        Radixbench other = new Radixbench();
        other.put(0, 1, 1);
        other.type(1, false);
        other.knock();
        Due.is("1 own state", Bench.state(bench), "'' 0 0 0 0 0 0 0 0 0 0 0 0 0");
    }

    private static void put() {
        Radixbench bench = new Radixbench();
        Due.is("2 no bit", bench.put(0, 0, 0), 0);
        Due.is("2 both halves", bench.put(0, 1, 3), 3);
        Due.is("2 high", bench.high(0), 1);
        Due.is("2 low", bench.low(0), 3);
        Due.is("2 low below 0", bench.put(7, 0, -1), 32);
        Due.is("2 high stays", bench.high(7), 0);
        Due.is("2 low stays", bench.low(7), -1);
        Due.is("2 high below 0", bench.put(7, -1, 0), 32);
        Due.is("2 high is that", bench.high(7), -1);
        Due.is("2 low is that", bench.low(7), 0);
        Due.is("2 all bits", bench.put(3, -1, -1), 64);
        Due.is("2 first bits", bench.put(4, Integer.MIN_VALUE, Integer.MIN_VALUE), 2);
        Due.is("2 greatest", bench.put(5, Integer.MAX_VALUE, Integer.MAX_VALUE), 62);
        String before = Bench.state(bench);
        Due.is("2 cells", before, "'' 4294967299 0 0 -1 -9223372034707292160 9223372034707292159 0 -4294967296 0 0 0 0 0");
        for (int cell : Bench.NO_CELLS) {
            Due.outside("2 put " + cell, () -> bench.put(cell, 1, 2));
        }
        Due.is("2 unchanged", Bench.state(bench), before);
    }

    private static void copy() {
        Radixbench bench = Bench.of(5, 7, 5, 5L << 32, (1L << 32) + 7);
        Due.is("3 changed", bench.copy(0, 1), true);
        Due.is("3 as that", Bench.cell(bench, 0), 7L);
        Due.is("3 from stays", Bench.cell(bench, 1), 7L);
        Due.is("3 the same already", bench.copy(0, 1), false);
        Due.is("3 itself", bench.copy(1, 1), false);
        Due.is("3 high alone changes", bench.copy(1, 4), true);
        Due.is("3 high, too", bench.high(1), 1);
        Due.is("3 low alone changes", bench.copy(3, 6), true);
        Due.is("3 to the last", bench.copy(7, 2), true);
        Due.is("3 the last", bench.low(7), 5);
        String before = Bench.state(bench);
        for (int cell : Bench.NO_CELLS) {
            Due.outside("3 to " + cell, () -> bench.copy(cell, 0));
            Due.outside("3 from " + cell, () -> bench.copy(0, cell));
            Due.outside("3 both " + cell, () -> bench.copy(cell, cell));
        }
        Due.is("3 unchanged", Bench.state(bench), before);
    }

    private static void type() {
        Radixbench small = new Radixbench();
        Radixbench great = new Radixbench();
        for (int sign = 0; sign <= 37; sign++) {
            Due.is("4 size", small.type(sign, false), sign + 1);
            Due.is("4 size", great.type(sign, true), sign + 1);
        }
        Due.is("4 small", small.text(), "0123456789abcdefghijklmnopqrstuvwxyz-+");
        Due.is("4 great", great.text(), "0123456789ABCDEFGHIJKLMNOPQRSTUVWXYZ-+");
        String before = Bench.state(small);
        for (int sign : new int[] {-1, 38, 100, Integer.MIN_VALUE, Integer.MAX_VALUE}) {
            Due.illegal("4 sign " + sign, () -> small.type(sign, false));
            Due.illegal("4 great sign " + sign, () -> small.type(sign, true));
        }
        Due.is("4 unchanged", Bench.state(small), before);
    }

    private static void typeBeyondTheEnd() {
        Radixbench bench = new Radixbench();
        for (int at = 0; at < 70; at++) {
            Due.is("4 up to the 70th", bench.type(at % 10, false), at + 1);
        }
        String before = Bench.state(bench);
        Due.state("4 the 71st", () -> bench.type(0, false));
        Due.illegal("4 the sign is looked at first", () -> bench.type(38, false));
        Due.illegal("4 the sign is looked at first", () -> bench.type(-1, true));
        Due.is("4 unchanged", Bench.state(bench), before);
        Due.is("4 all 70", bench.text(), SEVENTY);
        Due.is("4 erased", bench.erase(), 69);
        Due.is("4 typed again", bench.type(35, true), 70);
        Due.is("4 the last is new", bench.text(), SEVENTY.substring(0, 69) + "Z");
    }

    private static void erase() {
        Radixbench bench = new Radixbench();
        Due.state("5 of a new one", bench::erase);
        Bench.type(bench, "+aB3");
        Due.is("5 three left", bench.erase(), 3);
        Due.is("5 the last is gone", bench.text(), "+aB");
        Due.is("5 two left", bench.erase(), 2);
        Due.is("5 one left", bench.erase(), 1);
        Due.is("5 the first stays", bench.text(), "+");
        Due.is("5 none left", bench.erase(), 0);
        Due.is("5 empty", bench.text(), "");
        String before = Bench.state(bench);
        Due.state("5 empty", bench::erase);
        Due.is("5 unchanged", Bench.state(bench), before);
        bench.write(0, 10, 0);
        Due.is("5 of what is written", bench.erase(), 0);
    }

    private static void clear() {
        Radixbench bench = new Radixbench();
        Due.is("6 of a new one", bench.clear(), 0);
        Bench.type(bench, "12x");
        bench.put(1, 2, 3);
        Due.is("6 had", bench.clear(), 3);
        Due.is("6 empty", Bench.state(bench), "'' 0 8589934595 0 0 0 0 0 0 0 0 0 0 0");
        Due.is("6 again", bench.clear(), 0);
        Bench.type(bench, SEVENTY);
        Due.is("6 of 70", bench.clear(), 70);
        Due.is("6 one is typed", bench.type(10, false), 1);
        Due.is("6 what was is gone", bench.text(), "a");
    }
}
