/** What several tests need of a Radixbench: cells and texts told in one go, and its state told in one text. */
final class Bench {
    static final int[] NO_CELLS = {-1, 8, 9, Integer.MIN_VALUE, Integer.MAX_VALUE};
    static final int[] NO_RADIXES = {1, 0, -1, 37, Integer.MIN_VALUE, Integer.MAX_VALUE};
    static final int[] NO_KINDS = {-1, 4, Integer.MIN_VALUE, Integer.MAX_VALUE};

    private static final String SIGNS = "0123456789abcdefghijklmnopqrstuvwxyz-+";

    private Bench() {
    }

    static Radixbench of(long... cells) {
        Radixbench bench = new Radixbench();
        for (int cell = 0; cell < cells.length; cell++) {
            put(bench, cell, cells[cell]);
        }
        return bench;
    }

    static Radixbench typed(String text) {
        Radixbench bench = new Radixbench();
        type(bench, text);
        return bench;
    }

    static void put(Radixbench bench, int cell, long number) {
        bench.put(cell, (int) (number >> 32), (int) number);
    }

    static void type(Radixbench bench, String text) {
        bench.clear();
        for (char sign : text.toCharArray()) {
            char small = Character.toLowerCase(sign);
            bench.type(SIGNS.indexOf(small), small != sign);
        }
    }

    static long cell(Radixbench bench, int cell) {
        return ((long) bench.high(cell) << 32) | (bench.low(cell) & 0xFFFFFFFFL);
    }

    static String state(Radixbench bench) {
        StringBuilder state = new StringBuilder("'").append(bench.text()).append('\'');
        for (int cell = 0; cell < 8; cell++) {
            state.append(' ').append(cell(bench, cell));
        }
        for (int what = 0; what <= 4; what++) {
            state.append(' ').append(bench.bench(what));
        }
        return state.toString();
    }
}
