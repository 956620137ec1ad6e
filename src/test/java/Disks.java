/** What several tests need of a disk: SUMS, and WORDS that are set by decay(). */
final class Disks {
    static final int MARK = 1414677326;

    private Disks() {
    }

    static int sumOf(TwinRoots x, int block) {
        int s = 17;
        for (int i = 0; i < x.count(1) - 1; i++) {
            s = 31 * s + x.word(block, i);
        }
        return s;
    }

    static boolean sealed(TwinRoots x, int block) {
        return x.word(block, x.count(1) - 1) == sumOf(x, block);
    }

    /** Sets a WORD, but not the SUM. */
    static void set(TwinRoots x, int block, int word, int value) {
        x.decay(block, word, x.word(block, word) ^ value);
    }

    /** Sets a WORD, and the SUM so that it is right again. */
    static void poke(TwinRoots x, int block, int word, int value) {
        set(x, block, word, value);
        set(x, block, x.count(1) - 1, sumOf(x, block));
    }

    /** Lays these WORDS into a BLOCK, 0 behind them, and the right SUM. */
    static void lay(TwinRoots x, int block, int... words) {
        for (int i = 0; i < x.count(1) - 1; i++) {
            set(x, block, i, i < words.length ? words[i] : 0);
        }
        set(x, block, x.count(1) - 1, sumOf(x, block));
    }

    /** Compares a BLOCK with these WORDS, 0 behind them, and the right SUM. */
    static void due(Check check, TwinRoots x, int block, int... words) {
        for (int i = 0; i < x.count(1) - 1; i++) {
            check.due("word(" + block + ", " + i + ")", x.word(block, i), i < words.length ? words[i] : 0);
        }
        check.due("the SUM of block " + block, x.word(block, x.count(1) - 1), sumOf(x, block));
    }
}
