/** The sentences of the promises 1 to 6: a new object, put, copy, type, erase, clear. */
final class CellsAndTextSentences {
    private static final String SEVENTY = "0123456789".repeat(7);

    private CellsAndTextSentences() {
    }

    static void hold() {
        Sentence.holds(1, "Creates CELLS of 0 and an empty TEXT.", CellsAndTextSentences::newObject);

        Sentence.holds(2, "Tells a CELL by its halves.", CellsAndTextSentences::putHalves);
        Sentence.holds(2, "Returns how many of its bits are 1.", CellsAndTextSentences::putAnswers);
        Sentence.holds(2, "`IndexOutOfBoundsException` if there is no such CELL",
            () -> Range.ofCells((bench, cell) -> bench.put(cell, 0, 0)));

        Sentence.holds(3, "A CELL becomes as another one.", CellsAndTextSentences::copied);
        Sentence.holds(3, "Returns whether the CELL changed (HIGH, too).", CellsAndTextSentences::copyAnswers);
        Sentence.holds(3, "`IndexOutOfBoundsException` if there is no such CELL, of both", () -> {
            Range.ofCells((bench, cell) -> bench.copy(cell, 0));
            Range.ofCells((bench, cell) -> bench.copy(0, cell));
            Range.ofCells((bench, cell) -> bench.copy(cell, cell));
        });

        Sentence.holds(4, "Types a sign behind the TEXT.", CellsAndTextSentences::typedBehind);
        Sentence.holds(4, "0 to 35 the digit or small letter of that worth, 36 \"-\", 37 \"+\"",
            CellsAndTextSentences::signs);
        Sentence.holds(4, "whether a letter is a great one (of no other sign it matters)",
            CellsAndTextSentences::greats);
        Sentence.holds(4, "Returns how many signs TEXT has then.", CellsAndTextSentences::typeAnswers);
        Sentence.holds(4, "`IllegalArgumentException` if sign is not 0 to 37", () -> {
            Range.illegal(0, 37, (bench, sign) -> bench.type(sign, false));
            Range.illegal(0, 37, (bench, sign) -> bench.type(sign, true));
        });
        Sentence.holds(4, "`IllegalStateException` if TEXT has 70", CellsAndTextSentences::typeIntoAFullText);

        Sentence.holds(5, "Takes the last sign away.", CellsAndTextSentences::erased);
        Sentence.holds(5, "Returns how many TEXT has then.", CellsAndTextSentences::eraseAnswers);
        Sentence.holds(5, "`IllegalStateException` if TEXT is empty", CellsAndTextSentences::eraseOfAnEmptyText);

        Sentence.holds(6, "Empties the TEXT.", CellsAndTextSentences::cleared);
        Sentence.holds(6, "Returns how many signs it had.", CellsAndTextSentences::clearAnswers);
    }

    private static void newObject() {
        Radixbench used = Range.bench();
        used.knock();
        Radixbench bench = new Radixbench();
        for (int cell = 0; cell < 8; cell++) {
            Due.is("cell " + cell, Bench.cell(bench, cell), 0L);
        }
        Due.is("the text", bench.text(), "");
        for (int what = 0; what < 5; what++) {
            Due.is("bench " + what, bench.bench(what), 0);
        }
    }

    private static void putHalves() {
        int[] halves = {0, 1, -1, Integer.MIN_VALUE, Integer.MAX_VALUE};
        Radixbench bench = Range.bench();
        for (int high : halves) {
            for (int low : halves) {
                bench.put(3, high, low);
                Due.is("HIGH of " + high + " and " + low, bench.high(3), high);
                Due.is("LOW of " + high + " and " + low, bench.low(3), low);
            }
        }
        Due.is("the one before", Bench.cell(bench, 2), 3L);
        Due.is("the one behind", Bench.cell(bench, 4), 5L);
    }

    private static void putAnswers() {
        Radixbench bench = new Radixbench();
        Due.is("all", bench.put(0, -1, -1), 64);
        Due.is("all of LOW", bench.put(0, 0, -1), 32);
        Due.is("all of HIGH", bench.put(0, -1, 0), 32);
        Due.is("none", bench.put(0, 0, 0), 0);
        Due.is("the first ones", bench.put(0, Integer.MIN_VALUE, Integer.MIN_VALUE), 2);
        Due.is("all but the first ones", bench.put(0, Integer.MAX_VALUE, Integer.MAX_VALUE), 62);
    }

    private static void copied() {
        long[] numbers = {0, -1, Long.MIN_VALUE, 1L << 32, 0xFFFFFFFFL};
        for (long number : numbers) {
            Radixbench bench = Bench.of(5, 5, 5, 5, 5, 5, 5, number);
            bench.copy(0, 7);
            Due.is(number + " copied", Bench.cell(bench, 0), number);
            Due.is(number + " stays", Bench.cell(bench, 7), number);
            Due.is("another one", Bench.cell(bench, 1), 5L);
        }
    }

    private static void copyAnswers() {
        Radixbench bench = Bench.of(5, (1L << 32) + 5, 6, 5);
        Due.is("as it was", bench.copy(0, 3), false);
        Due.is("as itself", bench.copy(0, 0), false);
        Due.is("LOW alone", bench.copy(0, 2), true);
        Due.is("HIGH alone", bench.copy(3, 1), true);
        Due.is("that again", bench.copy(3, 1), false);
    }

    private static void typedBehind() {
        Radixbench bench = Bench.typed("-1");
        bench.type(2, false);
        Due.is("behind", bench.text(), "-12");
        Bench.type(bench, SEVENTY.substring(1));
        bench.type(0, false);
        Due.is("the last that there is room for", bench.text(), SEVENTY.substring(1) + "0");
        bench.clear();
        bench.type(36, false);
        Due.is("the first", bench.text(), "-");
    }

    private static void signs() {
        Radixbench bench = new Radixbench();
        for (int sign = 0; sign <= 37; sign++) {
            bench.type(sign, false);
        }
        Due.is("0 to 37", bench.text(), "0123456789abcdefghijklmnopqrstuvwxyz-+");
        for (int sign = 0; sign <= 35; sign++) {
            Due.is("the worth of " + sign, bench.digit(sign, 36), sign);
        }
    }

    private static void greats() {
        Radixbench bench = new Radixbench();
        for (int sign : new int[] {0, 9, 10, 35, 36, 37}) {
            bench.type(sign, true);
        }
        Due.is("great ones", bench.text(), "09AZ-+");
        bench.clear();
        for (int sign : new int[] {0, 9, 10, 35, 36, 37}) {
            bench.type(sign, false);
        }
        Due.is("small ones", bench.text(), "09az-+");
    }

    private static void typeAnswers() {
        Radixbench bench = new Radixbench();
        for (int signs = 1; signs <= 70; signs++) {
            Due.is("sign " + signs, bench.type(36, false), signs);
        }
        bench.clear();
        Due.is("the first again", bench.type(37, false), 1);
        bench.put(0, 0, 1000);
        bench.write(0, 10, 0);
        Due.is("behind what is written", bench.type(0, false), 5);
    }

    private static void typeIntoAFullText() {
        Radixbench bench = Bench.typed(SEVENTY.substring(0, 69));
        Due.is("into 69", bench.type(35, true), 70);
        for (int sign : new int[] {0, 35, 36, 37}) {
            Due.state("a " + sign + " into 70", () -> bench.type(sign, false));
            Due.state("a great " + sign + " into 70", () -> bench.type(sign, true));
        }
        Due.is("the text stays", bench.text(), SEVENTY.substring(0, 69) + "Z");
        bench.erase();
        Due.is("into 69 again", bench.type(0, false), 70);
        bench.clear();
        Due.is("into none", bench.type(0, false), 1);
    }

    private static void erased() {
        Radixbench bench = Bench.typed(SEVENTY);
        for (int signs = 69; signs >= 0; signs--) {
            bench.erase();
            Due.is(signs + " left", bench.text(), SEVENTY.substring(0, signs));
        }
        bench.type(10, true);
        bench.type(11, false);
        bench.erase();
        Due.is("typed anew", bench.text(), "A");
    }

    private static void eraseAnswers() {
        Radixbench bench = Bench.typed(SEVENTY);
        for (int signs = 69; signs >= 0; signs--) {
            Due.is(signs + " left", bench.erase(), signs);
        }
    }

    private static void eraseOfAnEmptyText() {
        Radixbench bench = new Radixbench();
        Due.state("of a new one", bench::erase);
        bench.type(0, false);
        Due.is("of one sign", bench.erase(), 0);
        Due.state("of none left", bench::erase);
        Bench.type(bench, SEVENTY);
        bench.clear();
        Due.state("of a cleared one", bench::erase);
        Due.state("again", bench::erase);
        Due.is("the text stays", bench.text(), "");
        Due.is("and can be typed", bench.type(0, false), 1);
    }

    private static void cleared() {
        for (String text : new String[] {"", "0", "-", SEVENTY}) {
            Radixbench bench = Bench.typed(text);
            bench.clear();
            Due.is("'" + text + "' cleared", bench.text(), "");
            Due.is("its signs", bench.bench(0), 0);
            Due.outside("its first sign", () -> bench.digit(0, 36));
        }
    }

    private static void clearAnswers() {
        Radixbench bench = new Radixbench();
        Due.is("of an empty one", bench.clear(), 0);
        bench.type(1, false);
        Due.is("of one sign", bench.clear(), 1);
        Due.is("of a cleared one", bench.clear(), 0);
        Bench.type(bench, SEVENTY);
        Due.is("of a full one", bench.clear(), 70);
        bench.bits(0, 0, false);
        Due.is("of what is written", bench.clear(), 1);
    }
}
