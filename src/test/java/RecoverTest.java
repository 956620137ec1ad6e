/**
 * Promise 14: recover. In most cases ROOT 1 (EPOCH 1) has the tree of 1 .. 17 with 12 WORDS, and
 * ROOT 0 (EPOCH 0) is empty, so that the EPOCH tells whether ROOT 1 was found RIGHT.
 *
 * <p>The tree: 10 has 4 |10| 9; 4 has 2 |4| 3 |7| 5; 9 has 6 |13| 7 |16| 8; LEAVES 2, 3, 5, 6, 7
 * have three keys each (1 .. 15), 8 has 16, 17.
 */
final class RecoverTest {
    public static void main(String[] args) {
        Check check = new Check("RecoverTest");
        backToTheCommittedMap(check);
        roots(check);
        numbers(check);
        kindsAndHowMany(check);
        sums(check);
        depths(check);
        unlikeKindsOfALevel(check);
        keys(check);
        whichRoot(check);
        otherRootIsWritten(check);
        otherRootCounts(check);
        cutWithin(check);
        nothing(check);
        unusedWords(check);
        check.end();
    }

    private static TwinRoots tree() {
        TwinRoots x = PutTest.rising(24, 17);
        x.commit();
        return x;
    }

    private static void due(Check check, String what, TwinRoots x, boolean right) {
        check.due(what + ": recover()", x.recover(), TwinRoots.DONE);
        check.due(what + ": count(4)", x.count(4), right ? 1 : 0);
        check.due(what + ": count(3)", x.count(3), 0);
        if (!right) {
            check.due(what + ": size()", x.size(), 0);
            check.due(what + ": all are FREE", x.count(5), x.count(0) - 2);
        }
    }

    /** One WORD is set, with the right SUM. */
    private static void poked(Check check, String what, boolean right, int block, int word, int value) {
        TwinRoots x = tree();
        Disks.poke(x, block, word, value);
        due(check, what, x, right);
    }

    private static void backToTheCommittedMap(Check check) {
        TwinRoots x = tree();
        x.put(1, 5);
        x.remove(17);
        x.put(99, 1);
        int writes = x.count(2);
        due(check, "what is not committed", x, true);
        check.due("no WRITE", x.count(2), writes);
        check.due("size()", x.size(), 17);
        check.due("get(1)", x.get(1), 10);
        check.due("was(1)", x.was(1), 10);
        check.due("contains(99)", x.contains(99), false);
        check.due("count(6)", x.count(6), 3);
        check.due("count(7)", x.count(7), 10);
        check.due("count(9)", x.count(9), 17);
        for (int b = 2; b < 24; b++) {
            check.due("block(" + b + ")", x.block(b), b <= 10 ? 3 : 1);
        }
        x.put(1, 6);
        check.due("it takes a FREE one", x.block(11), 2);
    }

    private static void roots(Check check) {
        poked(check, "the mark", false, 1, 0, Disks.MARK + 1);
        poked(check, "WORD 2 is 0, WORD 3 not", false, 1, 2, 0);
        poked(check, "one key more", false, 1, 3, 18);
        poked(check, "one key less", false, 1, 3, 16);
        poked(check, "no key", false, 1, 3, 0);
        poked(check, "the same", true, 1, 3, 17);
        TwinRoots x = tree();
        x.decay(1, 11, 1);
        due(check, "the SUM", x, false);
        TwinRoots y = tree();
        Disks.poke(y, 1, 2, 0);
        Disks.poke(y, 1, 3, 0);
        due(check, "none", y, true);
        check.due("size()", y.size(), 0);
        check.due("count(5)", y.count(5), 22);
    }

    private static void numbers(Check check) {
        for (int block : new int[] {0, 1, -1, 24, 64, 66, Integer.MIN_VALUE, Integer.MAX_VALUE}) {
            poked(check, "a child " + block, false, 4, 4, block);
            if (block != 0) {
                poked(check, "the uppermost " + block, false, 1, 2, block);
            }
            TwinRoots x = tree();
            Disks.poke(x, 9, 6, block);
            Disks.poke(x, 1, 3, 15);
            due(check, "the last child " + block + ", and fewer keys", x, false);
        }
        poked(check, "one reached twice", false, 4, 4, 2);
        poked(check, "one reached from two", false, 9, 2, 2);
        poked(check, "a ring", false, 9, 2, 10);
        poked(check, "itself", false, 10, 2, 10);
        poked(check, "one that is 0 all over", false, 9, 6, 20);
    }

    private static void kindsAndHowMany(Check check) {
        for (int kind : new int[] {0, 3, -1, 1 + 256}) {
            poked(check, "kind of a LEAF " + kind, false, 5, 0, kind);
            poked(check, "kind of an INNER " + kind, false, 9, 0, kind);
        }
        poked(check, "a LEAF as an INNER", false, 5, 0, 2);
        poked(check, "an INNER as a LEAF", false, 9, 0, 1);
        for (int many : new int[] {0, -1, 5, Integer.MAX_VALUE, Integer.MIN_VALUE}) {
            poked(check, "keys " + many, false, 8, 1, many);
        }
        for (int many : new int[] {0, 1, -1, 6, Integer.MAX_VALUE, Integer.MIN_VALUE}) {
            poked(check, "children " + many, false, 9, 1, many);
        }
        TwinRoots x = tree();
        Disks.poke(x, 8, 1, 1);
        Disks.poke(x, 1, 3, 16);
        due(check, "LMIN does not matter", x, true);
        check.due("contains(17)", x.contains(17), false);
        TwinRoots y = tree();
        Disks.poke(y, 9, 1, 2);
        Disks.poke(y, 1, 3, 15);
        due(check, "CMIN does not matter", y, true);
        check.due("size()", y.size(), 15);
        check.due("block(8)", y.block(8), 1);
        TwinRoots z = new TwinRoots(12, 8);
        Disks.lay(z, 0, Disks.MARK, 1, 2, 0);
        Disks.lay(z, 2, 1, 0);
        check.due("a LEAF without keys", z.recover(), TwinRoots.NOTHING);
        Disks.lay(z, 0, Disks.MARK, 1, 2, 1);
        Disks.lay(z, 2, 2, 1, 3);
        Disks.lay(z, 3, 1, 1, 5, 50);
        check.due("an INNER with one child", z.recover(), TwinRoots.NOTHING);
    }

    private static void sums(Check check) {
        for (int b = 2; b <= 10; b++) {
            for (int w : new int[] {0, 1, 2, 3, 10, 11}) {
                TwinRoots x = tree();
                x.decay(b, w, 1 << 30);
                due(check, "WORD " + w + " of BLOCK " + b, x, false);
            }
        }
        TwinRoots x = tree();
        x.decay(11, 3, -1);
        due(check, "a BLOCK that is not reached", x, true);
    }

    private static void depths(Check check) {
        TwinRoots x = tree();
        Disks.poke(x, 10, 2, 2);
        Disks.poke(x, 1, 3, 3 + 8);
        due(check, "a LEAF that is less deep", x, false);
        for (int keys : new int[] {2, 3, 8, 9, 11}) {
            TwinRoots first = tree();
            Disks.poke(first, 10, 2, 2);
            Disks.poke(first, 1, 3, keys);
            due(check, "a first LEAF that is less deep, and " + keys + " keys", first, false);
            TwinRoots last = tree();
            Disks.poke(last, 10, 4, 8);
            Disks.poke(last, 1, 3, keys);
            due(check, "a last LEAF that is less deep, and " + keys + " keys", last, false);
        }
        TwinRoots y = new TwinRoots(12, 40);
        y.format();
        Disks.lay(y, 1, Disks.MARK, 1, 2, 13);
        for (int d = 2; d < 14; d++) {
            Disks.layNew(y, d, 2, 2, d + 1, 100 - d, d + 18);
            Disks.layNew(y, d + 18, 1, 1, 100 - d, 1);
        }
        Disks.layNew(y, 14, 1, 1, 1, 1);
        due(check, "a comb", y, false);
        TwinRoots z = new TwinRoots(12, 33);
        z.format();
        Disks.lay(z, 1, Disks.MARK, 1, 2, 16);
        for (int b = 2; b < 17; b++) {
            int n = b - 1;
            int level = 31 - Integer.numberOfLeadingZeros(n);
            int width = 16 >> level;
            int middle = (n - (1 << level)) * width + width / 2;
            Disks.layNew(z, b, 2, 2, 2 * n + 1, middle, 2 * n + 2);
        }
        for (int leaf = 0; leaf < 16; leaf++) {
            Disks.layNew(z, 17 + leaf, 1, 1, leaf, leaf * leaf);
        }
        due(check, "five deep, two children each", z, true);
        check.due("count(6)", z.count(6), 5);
        check.due("count(8)", z.count(8), 31);
        check.due("get(15)", z.get(15), 225);
    }

    /**
     * A LEAF beside an INNER NODE, with WORDS that would serve if the one were read as the other: the
     * INNER's count and KEY as keys, the LEAF's values as BLOCKS.
     */
    private static void unlikeKindsOfALevel(Check check) {
        TwinRoots x = new TwinRoots(12, 12);
        x.format();
        Disks.lay(x, 1, Disks.MARK, 1, 2, 3);
        Disks.layNew(x, 2, 2, 2, 3, 2, 4);
        Disks.layNew(x, 3, 1, 1, 1, 10);
        Disks.layNew(x, 4, 2, 2, 5, 13, 6);
        Disks.layNew(x, 5, 1, 1, 2, 20);
        Disks.layNew(x, 6, 1, 1, 13, 130);
        due(check, "an INNER behind a LEAF", x, false);
        TwinRoots y = new TwinRoots(12, 12);
        y.format();
        Disks.lay(y, 1, Disks.MARK, 1, 2, 4);
        Disks.layNew(y, 2, 2, 2, 3, 50, 4);
        Disks.layNew(y, 3, 2, 2, 5, 20, 6);
        Disks.layNew(y, 4, 1, 2, 50, 7, 60, 8);
        Disks.layNew(y, 5, 1, 1, 10, 1);
        Disks.layNew(y, 6, 1, 1, 20, 2);
        Disks.layNew(y, 7, 1, 1, 50, 5);
        Disks.layNew(y, 8, 1, 1, 60, 6);
        due(check, "a LEAF behind an INNER", y, false);
    }

    private static void keys(Check check) {
        poked(check, "two keys alike", false, 2, 4, 1);
        poked(check, "a key that falls", false, 2, 4, 0);
        poked(check, "a lesser first key", true, 2, 2, Integer.MIN_VALUE);
        poked(check, "a greater last key", true, 8, 4, Integer.MAX_VALUE);
        poked(check, "a key at the KEY behind it", false, 2, 6, 4);
        poked(check, "a key beyond the KEY behind it", false, 5, 6, 11);
        poked(check, "a key below the KEY ahead of it", false, 3, 2, 3);
        poked(check, "the KEY at a key of the LEAF ahead", false, 4, 3, 3);
        poked(check, "the KEY behind the first key", false, 4, 3, 5);
        poked(check, "the KEY of the uppermost one too low", false, 10, 3, 9);
        poked(check, "the KEY of the uppermost one too high", false, 10, 3, 11);
        poked(check, "the last KEY too high", false, 9, 5, 17);
        TwinRoots w = tree();
        Disks.poke(w, 5, 1, 2);
        Disks.poke(w, 6, 2, 9);
        Disks.poke(w, 1, 3, 16);
        due(check, "a key below a KEY two levels up", w, false);
        TwinRoots x = tree();
        Disks.poke(x, 5, 6, 10);
        Disks.lay(x, 6, 1, 2, 11, 110, 12, 120);
        Disks.poke(x, 1, 3, 16);
        due(check, "a key at a KEY two levels up", x, false);
        TwinRoots y = tree();
        Disks.poke(y, 3, 6, 5);
        Disks.poke(y, 3, 4, 4);
        Disks.poke(y, 3, 2, 3);
        Disks.poke(y, 2, 6, 2);
        Disks.poke(y, 2, 4, 1);
        Disks.poke(y, 2, 2, 0);
        due(check, "a KEY in the LEAF behind its place", y, false);
        TwinRoots z = tree();
        Disks.poke(z, 3, 2, 5);
        Disks.poke(z, 3, 4, 6);
        Disks.poke(z, 3, 1, 2);
        Disks.poke(z, 1, 3, 16);
        due(check, "a KEY that is in no LEAF", z, true);
    }

    private static void whichRoot(Check check) {
        int[][] epochs = {{0, 0, 0}, {1, 0, 0}, {0, 1, 1}, {7, 7, 0}, {-1, -2, 0}, {-2, -1, 1},
            {Integer.MIN_VALUE, Integer.MAX_VALUE, 1}, {Integer.MAX_VALUE, Integer.MIN_VALUE, 0}, {-1, 0, 1}};
        for (int[] row : epochs) {
            TwinRoots x = new TwinRoots(12, 8);
            Disks.lay(x, 0, Disks.MARK, row[0], 2, 1);
            Disks.lay(x, 1, Disks.MARK, row[1], 3, 1);
            Disks.lay(x, 2, 1, 1, 5, 100);
            Disks.lay(x, 3, 1, 1, 5, 101);
            check.due("recover()", x.recover(), TwinRoots.DONE);
            check.due("get(5) of " + row[0] + ", " + row[1], x.get(5), 100 + row[2]);
            check.due("count(4)", x.count(4), row[row[2]]);
            check.due("no WRITE", x.count(2), 0);
            x.commit();
            check.due("the other one is written", x.word(1 - row[2], 1), row[row[2]] + 1);
        }
    }

    private static void otherRootIsWritten(Check check) {
        TwinRoots x = tree();
        x.decay(0, 7, 1);
        int writes = x.count(2);
        due(check, "ROOT 0 is not RIGHT", x, true);
        check.due("a WRITE", x.count(2), writes + 1);
        Disks.due(check, x, 0, Disks.MARK, 1, 10, 17);
        Disks.due(check, x, 1, Disks.MARK, 1, 10, 17);
        x.commit();
        check.due("ROOT 1 was the LATEST", x.word(0, 1), 2);
        TwinRoots y = tree();
        y.decay(5, 2, 1);
        due(check, "ROOT 1 is not RIGHT", y, false);
        Disks.due(check, y, 1, Disks.MARK);
        check.due("all are FREE", y.count(5), 22);
    }

    private static void otherRootCounts(Check check) {
        TwinRoots x = new TwinRoots(12, 8);
        x.format();
        x.put(1, 1);
        x.commit();
        x.put(1, 2);
        x.commit();
        x.put(1, 3);
        check.due("block(4)", x.block(4), 2);
        check.due("recover()", x.recover(), TwinRoots.DONE);
        check.due("count(4)", x.count(4), 2);
        check.due("block(2)", x.block(2), 4);
        check.due("block(3)", x.block(3), 3);
        check.due("block(4)", x.block(4), 1);
        x.put(1, 4);
        check.due("count(7)", x.count(7), 4);
        x.decay(0, 0, 1);
        check.due("recover()", x.recover(), TwinRoots.DONE);
        check.due("the older one", x.get(1), 1);
        check.due("ROOT 0 tells the same", x.word(0, 2), 2);
        check.due("block(3)", x.block(3), 1);
    }

    private static void cutWithin(Check check) {
        TwinRoots x = tree();
        x.decay(0, 7, 1);
        int writes = x.count(2);
        x.arm(0, 2);
        check.due("recover()", x.recover(), TwinRoots.DOWN);
        check.due("count(3)", x.count(3), 1);
        check.due("count(2)", x.count(2), writes);
        check.due("size()", x.size(), -1);
        check.due("word(0, 1)", x.word(0, 1), 1);
        check.due("word(0, 2)", x.word(0, 2), 0);
        due(check, "the next one", x, true);
        check.due("word(0, 2)", x.word(0, 2), 10);
    }

    private static void nothing(Check check) {
        TwinRoots x = tree();
        x.decay(0, 7, 1);
        x.decay(1, 7, 1);
        x.arm(0, 0);
        int writes = x.count(2);
        check.due("recover()", x.recover(), TwinRoots.NOTHING);
        check.due("count(3)", x.count(3), 1);
        check.due("get(1)", x.get(1), 0);
        check.due("put(1, 1)", x.put(1, 1), TwinRoots.DOWN);
        check.due("count(2)", x.count(2), writes);
        x.decay(1, 7, 1);
        check.due("the cut is still armed", x.recover(), TwinRoots.DOWN);
        due(check, "it is RIGHT again", x, true);
        check.due("get(17)", x.get(17), 170);
    }

    /** RIGHT is told of kind, how many, SUM and keys: WORDS that are not told have no part in it. */
    private static void unusedWords(Check check) {
        for (int w = 4; w <= 10; w++) {
            TwinRoots x = tree();
            Disks.poke(x, 1, w, 77);
            Disks.poke(x, 8, Math.max(6, w), 78);
            Disks.poke(x, 10, Math.max(5, w), 79);
            x.decay(0, 7, 1);
            due(check, "WORD " + w + " that is not told", x, true);
            check.due("the same WORDS", x.word(0, w), 77);
            check.due("sealed", Disks.sealed(x, 0), true);
            x.put(17, 1);
            Disks.due(check, x, 11, 1, 2, 16, 160, 17, 1);
            Disks.due(check, x, 13, 2, 2, 4, 10, 12);
        }
    }
}
