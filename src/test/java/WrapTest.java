import java.math.BigInteger;

/** The sentences of the document that tell of numbers that wrap: WORDS, SUM, EPOCH, sum. */
final class WrapTest {
    private static final int LEAST = Integer.MIN_VALUE;
    private static final int GREATEST = Integer.MAX_VALUE;
    private static final int EMPTY_ROOT_SUM = 1360327965;
    private static final int LEAF_SUM = 994774466;

    public static void main(String[] args) {
        Check check = new Check("WrapTest");
        wordsHoldAllNumbers(check);
        wordsAreTurned(check);
        sumInNumbers(check);
        sumWraps(check);
        sumLeavesOutTheLastWord(check);
        sumIsComparedWhole(check);
        epochWrapsAtCommit(check);
        wrappedEpochIsLess(check);
        epochOfMinusOne(check);
        epochsFarApart(check);
        valuesWrap(check);
        keysFarApart(check);
        keysFarApartOnTheDisk(check);
        check.end();
    }

    /** "WORDS (numbers of 32 bits, which wrap)" */
    private static void wordsHoldAllNumbers(Check check) {
        int[] numbers = {LEAST, LEAST + 1, -65536, -1, 0, 1, 65535, 65536, GREATEST - 1, GREATEST};
        for (int n : numbers) {
            TwinRoots x = new TwinRoots(12, 8);
            x.format();
            x.put(n, ~n);
            check.due("the key's WORD", x.word(2, 2), n);
            check.due("the value's WORD", x.word(2, 3), ~n);
            check.due("get", x.get(n), ~n);
            x.commit();
            check.due("was", x.was(n), ~n);
            check.due("recover()", x.recover(), TwinRoots.DONE);
            check.due("size()", x.size(), 1);
            check.due("get behind recover()", x.get(n), ~n);
        }
    }

    /** "A WORD of the disk is turned by a mask (exclusive or)" */
    private static void wordsAreTurned(Check check) {
        int[] masks = {LEAST, -1, GREATEST, 1, 0x55555555, 0};
        for (int mask : masks) {
            TwinRoots x = new TwinRoots(12, 8);
            x.decay(7, 5, GREATEST);
            check.due("decay", x.decay(7, 5, mask), true);
            check.due("word", x.word(7, 5), GREATEST ^ mask);
            check.due("decay", x.decay(7, 5, mask), true);
            check.due("turned back", x.word(7, 5), GREATEST);
        }
    }

    /** "s is 17; for each WORD but the last one s becomes 31 * s and that WORD", without any wrapping. */
    private static int sumOf(int... words) {
        BigInteger s = BigInteger.valueOf(17);
        for (int word : words) {
            s = s.multiply(BigInteger.valueOf(31)).add(BigInteger.valueOf(word));
        }
        return s.intValue();
    }

    /** The SUMS of BLOCKS of 12 WORDS as numbers, worked out apart from any program here. */
    private static void sumInNumbers(Check check) {
        TwinRoots x = new TwinRoots(12, 8);
        x.format();
        check.due("the SUM of an empty ROOT", x.word(0, 11), EMPTY_ROOT_SUM);
        check.due("the SUM of the other one", x.word(1, 11), EMPTY_ROOT_SUM);
        x.put(5, 50);
        check.due("the SUM of a LEAF", x.word(2, 11), LEAF_SUM);
    }

    private static void sumWraps(Check check) {
        int[] numbers = {GREATEST, LEAST, -1, 0x7edcba98};
        for (int k : numbers) {
            for (int v : numbers) {
                TwinRoots x = new TwinRoots(12, 8);
                x.format();
                x.put(k, v);
                check.due("the SUM of a LEAF", x.word(2, 11), sumOf(1, 1, k, v, 0, 0, 0, 0, 0, 0, 0));
                x.commit();
                check.due("the SUM of a ROOT", x.word(1, 11), sumOf(Disks.MARK, 1, 2, 1, 0, 0, 0, 0, 0, 0, 0));
                check.due("recover()", x.recover(), TwinRoots.DONE);
                check.due("get", x.get(k), v);
            }
        }
        TwinRoots y = new TwinRoots(40, 8);
        y.format();
        int[] row = new int[39];
        row[0] = 1;
        row[1] = 18;
        for (int i = 0; i < 18; i++) {
            row[2 + 2 * i] = GREATEST - 17 + i;
            row[3 + 2 * i] = LEAST + i;
            y.put(row[2 + 2 * i], row[3 + 2 * i]);
        }
        check.due("the SUM of 40 WORDS", y.word(2, 39), sumOf(row));
    }

    private static void sumLeavesOutTheLastWord(Check check) {
        TwinRoots x = new TwinRoots(12, 8);
        x.format();
        x.put(5, 50);
        for (int i = 0; i < 12; i++) {
            x.decay(2, i, -1);
        }
        x.put(5, 50);
        Disks.due(check, x, 2, 1, 1, 5, 50);
        check.due("what was there has no part in it", x.word(2, 11), LEAF_SUM);
    }

    /** "SUM as told": a ROOT or LEAF is not RIGHT with the least or greatest bit of a WORD turned. */
    private static void sumIsComparedWhole(Check check) {
        for (int block = 1; block <= 2; block++) {
            TwinRoots x = new TwinRoots(12, 8);
            for (int w = 0; w < 12; w++) {
                x.format();
                for (int bit = 0; bit < 32; bit += 31) {
                    x.put(5, 50);
                    x.commit();
                    x.decay(block, w, 1 << bit);
                    check.due("recover()", x.recover(), TwinRoots.DONE);
                    check.due("bit " + bit + " of WORD " + w + " of BLOCK " + block, x.count(4), 0);
                }
            }
        }
    }

    private static TwinRoots withEpochs(int zero, int one) {
        TwinRoots x = new TwinRoots(12, 8);
        Disks.layNew(x, 0, Disks.MARK, zero, 2, 1);
        Disks.layNew(x, 1, Disks.MARK, one, 3, 1);
        Disks.layNew(x, 2, 1, 1, 5, 100);
        Disks.layNew(x, 3, 1, 1, 5, 101);
        return x;
    }

    /** "The other one is written, with the EPOCH that is 1 more" */
    private static void epochWrapsAtCommit(Check check) {
        TwinRoots x = withEpochs(GREATEST, GREATEST - 1);
        check.due("recover()", x.recover(), TwinRoots.DONE);
        check.due("count(4)", x.count(4), GREATEST);
        x.put(5, 200);
        check.due("commit()", x.commit(), TwinRoots.DONE);
        check.due("word(1, 1)", x.word(1, 1), LEAST);
        check.due("count(4)", x.count(4), LEAST);
        check.due("was(5)", x.was(5), 200);
        check.due("commit()", x.commit(), TwinRoots.DONE);
        check.due("ROOT 1 was the LATEST", x.word(0, 1), LEAST + 1);
        check.due("count(4)", x.count(4), LEAST + 1);
    }

    /** "that with the greater EPOCH .. is taken": behind the wrap that is the older one. */
    private static void wrappedEpochIsLess(Check check) {
        TwinRoots x = withEpochs(GREATEST, GREATEST - 1);
        x.recover();
        x.put(5, 200);
        x.commit();
        check.due("recover()", x.recover(), TwinRoots.DONE);
        check.due("count(4)", x.count(4), GREATEST);
        check.due("get(5)", x.get(5), 100);
        check.due("the newer one counts", x.block(4), 4);
        check.due("the one before it does not", x.block(3), 1);
    }

    /** "4 EPOCH (-1 when it is DOWN)": it may be -1 when it is up, too. */
    private static void epochOfMinusOne(Check check) {
        TwinRoots x = withEpochs(-2, -1);
        check.due("recover()", x.recover(), TwinRoots.DONE);
        check.due("count(4)", x.count(4), -1);
        check.due("count(3)", x.count(3), 0);
        check.due("get(5)", x.get(5), 101);
        check.due("commit()", x.commit(), TwinRoots.DONE);
        check.due("count(4)", x.count(4), 0);
        check.due("word(0, 1)", x.word(0, 1), 0);
        check.due("recover()", x.recover(), TwinRoots.DONE);
        check.due("0 is greater than -1", x.count(4), 0);
    }

    /** EPOCHS whose difference wraps; "(of like ones ROOT 0)" */
    private static void epochsFarApart(Check check) {
        int[][] rows = {{LEAST, GREATEST, 1}, {GREATEST, LEAST, 0}, {LEAST, 1, 1}, {1, LEAST, 0}, {-2, GREATEST, 1},
            {GREATEST, -2, 0}, {LEAST, LEAST + 1, 1}, {LEAST + 1, LEAST, 0}, {LEAST, LEAST, 0},
            {GREATEST, GREATEST, 0}, {-1, 0, 1}, {0, -1, 0}, {0, 0, 0}, {7, 8, 1}, {8, 7, 0}};
        for (int[] row : rows) {
            TwinRoots x = withEpochs(row[0], row[1]);
            check.due("recover()", x.recover(), TwinRoots.DONE);
            check.due("EPOCHS " + row[0] + ", " + row[1], x.get(5), 100 + row[2]);
            check.due("count(4)", x.count(4), row[row[2]]);
            check.due("the other one counts, too", x.block(3 - row[2]), 4);
            x.commit();
            check.due("the other one is written", x.word(1 - row[2], 1), row[row[2]] + 1);
        }
    }

    /** "The sum of all values of keys from a to b (..; it wraps)" */
    private static void valuesWrap(Check check) {
        TwinRoots x = new TwinRoots(12, 16);
        x.format();
        int[] values = {GREATEST, 1, LEAST, LEAST, -1, GREATEST, GREATEST, GREATEST};
        for (int k = 0; k < values.length; k++) {
            x.put(k, values[k]);
        }
        check.due("over the greatest", x.sum(0, 1), LEAST);
        check.due("to 0", x.sum(0, 2), 0);
        check.due("below the least", x.sum(2, 3), 0);
        check.due("below the least by 1", x.sum(3, 4), GREATEST);
        check.due("in one LEAF and the next", x.sum(2, 5), GREATEST - 1);
        check.due("twice over", x.sum(5, 7), GREATEST - 2);
        for (int a = 0; a < 8; a++) {
            for (int b = a; b < 8; b++) {
                long want = 0;
                for (int k = a; k <= b; k++) {
                    want += values[k];
                }
                check.due("sum(" + a + ", " + b + ")", x.sum(a, b), (int) want);
            }
        }
    }

    /** Keys whose difference wraps stand as numbers do. */
    private static void keysFarApart(Check check) {
        int[] rising = {LEAST, LEAST + 1, -2, -1, 0, 1, 2, GREATEST - 1, GREATEST};
        int[] order = {4, 8, 0, 5, 1, 7, 3, 2, 6};
        TwinRoots x = new TwinRoots(12, 16);
        x.format();
        for (int at : order) {
            check.due("put", x.put(rising[at], at), TwinRoots.DONE);
        }
        for (int pass = 0; pass < 2; pass++) {
            for (int i = 0; i < rising.length; i++) {
                check.due("key(" + i + ")", x.key(i), rising[i]);
                check.due("get", x.get(rising[i]), i);
                check.due("rank", x.rank(rising[i]), i);
                check.due("sum up to it", x.sum(LEAST, rising[i]), i * (i + 1) / 2);
                check.due("sum from it", x.sum(rising[i], GREATEST), 36 - i * (i - 1) / 2);
            }
            x.commit();
            check.due("recover()", x.recover(), TwinRoots.DONE);
            check.due("count(4)", x.count(4), pass + 1);
        }
        for (int at : order) {
            check.due("remove", x.remove(rising[at]), TwinRoots.DONE);
        }
        check.due("size()", x.size(), 0);
    }

    /** "the keys rising from the first LEAF to the last one": not by a difference that wraps. */
    private static void keysFarApartOnTheDisk(Check check) {
        int[][] pairs = {{LEAST, GREATEST, 1}, {GREATEST, LEAST, 0}, {-2, GREATEST, 1}, {GREATEST, -2, 0},
            {LEAST, 1, 1}, {1, LEAST, 0}, {5, 5, 0}, {LEAST, LEAST, 0}, {GREATEST, GREATEST, 0}};
        for (int[] pair : pairs) {
            for (int told = 0; told <= 2; told++) {
                TwinRoots x = new TwinRoots(12, 8);
                Disks.layNew(x, 0, Disks.MARK, 0, 2, told);
                Disks.layNew(x, 2, 1, 2, pair[0], 7, pair[1], 8);
                boolean right = pair[2] == 1 && told == 2;
                check.due(pair[0] + ", " + pair[1] + ", told as " + told, x.recover(),
                        right ? TwinRoots.DONE : TwinRoots.NOTHING);
            }
        }
    }
}
