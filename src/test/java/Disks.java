/**
 * What several tests need of a disk: SUMS, and WORDS that are set by decay(). An object answers 512
 * calls at most, so that no WORD is asked for twice here.
 */
final class Disks {
    static final int MARK = 1414677326;

    private Disks() {
    }

    static int[] wordsOf(TwinRoots x, int block) {
        int[] row = new int[x.count(1)];
        for (int i = 0; i < row.length; i++) {
            row[i] = x.word(block, i);
        }
        return row;
    }

    static int sumOf(int[] row) {
        int s = 17;
        for (int i = 0; i < row.length - 1; i++) {
            s = 31 * s + row[i];
        }
        return s;
    }

    /** These WORDS, 0 behind them, and the right SUM. */
    static int[] rowOf(int length, int... words) {
        int[] row = new int[length];
        System.arraycopy(words, 0, row, 0, words.length);
        row[length - 1] = sumOf(row);
        return row;
    }

    static boolean sealed(TwinRoots x, int block) {
        int[] row = wordsOf(x, block);
        return row[row.length - 1] == sumOf(row);
    }

    private static void change(TwinRoots x, int block, int[] from, int[] to) {
        for (int i = 0; i < to.length; i++) {
            if (from[i] != to[i]) {
                x.decay(block, i, from[i] ^ to[i]);
            }
        }
    }

    /** Sets a WORD, and the SUM so that it is right again. */
    static void poke(TwinRoots x, int block, int word, int value) {
        int[] before = wordsOf(x, block);
        int[] after = before.clone();
        after[word] = value;
        after[after.length - 1] = sumOf(after);
        change(x, block, before, after);
    }

    /** Lays these WORDS into a BLOCK, 0 behind them, and the right SUM. */
    static void lay(TwinRoots x, int block, int... words) {
        int[] before = wordsOf(x, block);
        change(x, block, before, rowOf(before.length, words));
    }

    /** The same, for a BLOCK that is 0 all over. */
    static void layNew(TwinRoots x, int block, int... words) {
        int length = x.count(1);
        change(x, block, new int[length], rowOf(length, words));
    }

    /** Compares a BLOCK with these WORDS, 0 behind them, and the right SUM. */
    static void due(Check check, TwinRoots x, int block, int... words) {
        int[] got = wordsOf(x, block);
        int[] want = rowOf(got.length, words);
        for (int i = 0; i < got.length; i++) {
            check.due("word(" + block + ", " + i + ")", got[i], want[i]);
        }
    }
}
