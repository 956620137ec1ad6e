/** The sentences of the document that tell of numbers too small or too large, in its order. */
final class TooSmallOrLargeTest {
    private static final int LEAST = Integer.MIN_VALUE;
    private static final int GREATEST = Integer.MAX_VALUE;

    public static void main(String[] args) {
        Check check = new Check("TooSmallOrLargeTest");
        wordsOfABlock(check);
        blocksOfADisk(check);
        clampedDiskWorks(check);
        keysOfALeaf(check);
        oneKeyTooMany(check);
        childrenOfAnInner(check);
        oneChildTooMany(check);
        childBlocks(check);
        uppermostBlock(check);
        rootsAreNoNodes(check);
        keysThatARootTells(check);
        leavesTooDeep(check);
        keysAtTheEnds(check);
        writesAhead(check);
        wordsThatCome(check);
        cutsAreReplaced(check);
        placesOfKeys(check);
        ranks(check);
        sums(check);
        wordsThatAreNot(check);
        blocksThatAreNot(check);
        countsThatAreNot(check);
        check.end();
    }

    /** "A disk of that many WORDS a BLOCK (12 .. 40) .. others count as the nearest of these." */
    private static void wordsOfABlock(Check check) {
        for (int w = 12; w <= 40; w++) {
            check.due("count(1) of " + w, new TwinRoots(w, 8).count(1), w);
        }
        for (int w : new int[] {11, 10, 1, 0, -1, -12, -40, LEAST}) {
            check.due("count(1) of " + w, new TwinRoots(w, 8).count(1), 12);
        }
        for (int w : new int[] {41, 42, 64, 1000, GREATEST}) {
            check.due("count(1) of " + w, new TwinRoots(w, 8).count(1), 40);
        }
    }

    /** "and BLOCKS (4 .. 64); others count as the nearest of these." */
    private static void blocksOfADisk(Check check) {
        for (int b = 4; b <= 64; b++) {
            check.due("count(0) of " + b, new TwinRoots(12, b).count(0), b);
        }
        for (int b : new int[] {3, 2, 1, 0, -1, -4, -64, LEAST}) {
            check.due("count(0) of " + b, new TwinRoots(12, b).count(0), 4);
        }
        for (int b : new int[] {65, 66, 128, 1000, GREATEST}) {
            check.due("count(0) of " + b, new TwinRoots(12, b).count(0), 64);
        }
    }

    private static void clampedDiskWorks(Check check) {
        TwinRoots small = new TwinRoots(LEAST, LEAST);
        check.due("the last WORD", small.decay(3, 11, 1), true);
        check.due("a WORD more", small.decay(3, 12, 1), false);
        check.due("a BLOCK more", small.decay(4, 0, 1), false);
        small.format();
        for (int k = 1; k <= 4; k++) {
            check.due("put", small.put(k, k), TwinRoots.DONE);
        }
        check.due("LMOST is that of 12 WORDS", small.put(5, 5), TwinRoots.NOROOM);
        TwinRoots large = new TwinRoots(GREATEST, GREATEST);
        check.due("the last WORD", large.decay(63, 39, 1), true);
        check.due("a WORD more", large.decay(63, 40, 1), false);
        check.due("a BLOCK more", large.decay(64, 0, 1), false);
        large.format();
        for (int k = 1; k <= 18; k++) {
            large.put(k, k);
        }
        check.due("LMOST is that of 40 WORDS", large.count(8), 1);
        large.put(19, 19);
        check.due("and no more", large.count(8), 3);
    }

    /** A ROOT 0 of EPOCH 5 with one LEAF, and a ROOT 1 of EPOCH 4 without, to fall back to. */
    private static TwinRoots leafOf(int words, int told, int keys) {
        TwinRoots x = new TwinRoots(words, 8);
        Disks.layNew(x, 0, Disks.MARK, 5, 2, keys);
        Disks.layNew(x, 1, Disks.MARK, 4);
        int[] row = new int[2 + 2 * keys];
        row[0] = 1;
        row[1] = told;
        for (int i = 0; i < keys; i++) {
            row[2 + 2 * i] = i;
        }
        Disks.layNew(x, 2, row);
        return x;
    }

    /** "LEAF: .. how many keys (1 .. LMOST)" */
    private static void keysOfALeaf(Check check) {
        for (int words : new int[] {12, 13, 14, 15, 39, 40}) {
            int most = (words - 3) / 2;
            for (int keys = 0; keys <= most; keys++) {
                TwinRoots x = leafOf(words, keys, keys);
                check.due("recover()", x.recover(), TwinRoots.DONE);
                check.due("a LEAF of " + keys + " keys", x.count(4), keys == 0 ? 4 : 5);
                check.due("size()", x.size(), keys);
            }
            for (int told : new int[] {-1, 0, most + 1, most + 2, words, LEAST, GREATEST}) {
                TwinRoots x = leafOf(words, told, most);
                check.due("recover()", x.recover(), TwinRoots.DONE);
                check.due("a LEAF that tells " + told, x.count(4), 4);
            }
        }
    }

    /**
     * LEAVES that would be RIGHT if LMOST were one more: with an even number of WORDS one more key
     * fits, its value is the SUM; else the SUM itself is the key.
     */
    private static void oneKeyTooMany(Check check) {
        for (int words = 12; words <= 40; words++) {
            int many = (words - 3) / 2 + 1;
            int[] row = new int[words - 1];
            row[0] = 1;
            row[1] = many;
            for (int at = 2; at < row.length; at += 2) {
                row[at] = at;
            }
            while (words % 2 == 1 && Disks.sumOf(Disks.rowOf(words, row)) <= words) {
                row[3]++;
            }
            TwinRoots x = new TwinRoots(words, 8);
            Disks.layNew(x, 0, Disks.MARK, 5, 2, many);
            Disks.layNew(x, 1, Disks.MARK, 4);
            Disks.layNew(x, 2, row);
            check.due("recover()", x.recover(), TwinRoots.DONE);
            check.due("a LEAF of LMOST + 1 keys, " + words + " WORDS", x.count(4), 4);
        }
    }

    /** ROOT 0 with an INNER NODE in BLOCK 2 of LEAVES from BLOCK 3 on, a key each. */
    private static TwinRoots innerOf(int words, int told, int children) {
        TwinRoots x = new TwinRoots(words, 24);
        Disks.layNew(x, 0, Disks.MARK, 5, 2, children);
        Disks.layNew(x, 1, Disks.MARK, 4);
        int[] row = new int[2 + Math.max(0, 2 * children - 1)];
        row[0] = 2;
        row[1] = told;
        for (int i = 0; i < children; i++) {
            row[2 + 2 * i] = 3 + i;
            if (i > 0) {
                row[1 + 2 * i] = 10 * i;
            }
            Disks.layNew(x, 3 + i, 1, 1, 10 * i, i);
        }
        Disks.layNew(x, 2, row);
        return x;
    }

    /** "INNER: .. how many children (2 .. CMOST)" */
    private static void childrenOfAnInner(Check check) {
        for (int words : new int[] {12, 13, 14, 15, 39, 40}) {
            int most = (words - 2) / 2;
            for (int children = 0; children <= most; children++) {
                TwinRoots x = innerOf(words, children, children);
                check.due("recover()", x.recover(), TwinRoots.DONE);
                check.due("an INNER of " + children + " children", x.count(4), children < 2 ? 4 : 5);
                check.due("size()", x.size(), children < 2 ? 0 : children);
            }
            for (int told : new int[] {-1, 0, 1, most + 1, most + 2, words, LEAST, GREATEST}) {
                TwinRoots x = innerOf(words, told, most);
                check.due("recover()", x.recover(), TwinRoots.DONE);
                check.due("an INNER that tells " + told, x.count(4), 4);
            }
        }
    }

    /**
     * INNER NODES that would be RIGHT if CMOST were one more: the last KEY is the WORD ahead of the SUM,
     * and is chosen so that the SUM is the last child's BLOCK.
     */
    private static void oneChildTooMany(Check check) {
        for (int words = 13; words <= 39; words += 2) {
            int many = (words - 2) / 2 + 1;
            int lastBlock = 2 + many;
            int[] row = new int[words - 1];
            row[0] = 2;
            row[1] = many;
            row[2] = 3;
            for (int i = 1; i < many - 1; i++) {
                row[1 + 2 * i] = 10 * i;
                row[2 + 2 * i] = 3 + i;
            }
            int key = row.length - 1;
            while (row[key] <= 10 * many) {
                row[3]++;
                row[key] = 0;
                row[key] = lastBlock - Disks.sumOf(Disks.rowOf(words, row));
            }
            TwinRoots x = new TwinRoots(words, 24);
            Disks.layNew(x, 0, Disks.MARK, 5, 2, many);
            Disks.layNew(x, 1, Disks.MARK, 4);
            Disks.layNew(x, 2, row);
            check.due("the SUM is a BLOCK", x.word(2, words - 1), lastBlock);
            for (int i = 0; i < many; i++) {
                Disks.layNew(x, 3 + i, 1, 1, i == 0 ? 0 : row[1 + 2 * i], i);
            }
            check.due("recover()", x.recover(), TwinRoots.DONE);
            check.due("an INNER of CMOST + 1 children, " + words + " WORDS", x.count(4), 4);
        }
    }

    /** "all BLOCKS that are reached from it are RIGHT NODES: numbers from 2 on that there are" */
    private static void childBlocks(Check check) {
        for (int block : new int[] {LEAST, -62, -1, 0, 1, 8, 9, 64, 66, 68, GREATEST}) {
            TwinRoots x = treeWithLastChild(block);
            check.due("recover()", x.recover(), TwinRoots.DONE);
            check.due("a child in BLOCK " + block, x.count(4), 4);
        }
        for (int block = 4; block < 8; block++) {
            TwinRoots x = treeWithLastChild(block);
            check.due("recover()", x.recover(), TwinRoots.DONE);
            check.due("a child in BLOCK " + block, x.count(4), 5);
            check.due("get(10)", x.get(10), 1);
        }
    }

    private static TwinRoots treeWithLastChild(int block) {
        TwinRoots x = new TwinRoots(12, 8);
        Disks.layNew(x, 0, Disks.MARK, 5, 2, 2);
        Disks.layNew(x, 1, Disks.MARK, 4);
        Disks.layNew(x, 2, 2, 2, 3, 10, block);
        Disks.layNew(x, 3, 1, 1, 0, 0);
        for (int b = 4; b < 8; b++) {
            Disks.layNew(x, b, 1, 1, 10, 1);
        }
        return x;
    }

    private static void uppermostBlock(Check check) {
        for (int block : new int[] {LEAST, -62, -1, 0, 1, 8, 9, 64, 66, GREATEST, 2, 7}) {
            TwinRoots x = new TwinRoots(12, 8);
            Disks.layNew(x, 0, Disks.MARK, 5, block, 1);
            Disks.layNew(x, 1, Disks.MARK, 4);
            for (int b = 2; b < 8; b++) {
                Disks.layNew(x, b, 1, 1, 77, b);
            }
            boolean right = block >= 2 && block < 8;
            check.due("recover()", x.recover(), TwinRoots.DONE);
            check.due("the uppermost in BLOCK " + block, x.count(4), right ? 5 : 4);
            check.due("get(77)", x.get(77), right ? block : 0);
        }
    }

    /** "numbers from 2 on": a ROOT's BLOCK is none of a NODE, even if it has all that a LEAF has. */
    private static void rootsAreNoNodes(Check check) {
        for (int keys = 0; keys < 2; keys++) {
            TwinRoots x = new TwinRoots(12, 8);
            Disks.layNew(x, 0, Disks.MARK, 5, 1, keys);
            Disks.layNew(x, 1, 1, 1, 77, 7);
            check.due("the uppermost in BLOCK 1", x.recover(), TwinRoots.NOTHING);
            for (int root = 0; root < 2; root++) {
                TwinRoots y = new TwinRoots(12, 8);
                Disks.layNew(y, 1 - root, Disks.MARK, 5, 2, 1 + keys);
                Disks.layNew(y, 2, 2, 2, 3, 50, root);
                Disks.layNew(y, 3, 1, 1, 33, 3);
                Disks.layNew(y, root, 1, 1, 77, 7);
                check.due("a child in BLOCK " + root, y.recover(), TwinRoots.NOTHING);
            }
        }
    }

    /** "and WORD 3 is how many keys are in all LEAVES together" */
    private static void keysThatARootTells(Check check) {
        for (int told : new int[] {LEAST, -1, 0, 1, 2, 3, 4, 5, 260, GREATEST}) {
            TwinRoots x = innerOf(12, 3, 3);
            Disks.poke(x, 0, 3, told);
            check.due("recover()", x.recover(), TwinRoots.DONE);
            check.due("a ROOT that tells " + told + " keys of 3", x.count(4), told == 3 ? 5 : 4);
        }
        for (int told : new int[] {LEAST, -1, 1, GREATEST}) {
            TwinRoots x = new TwinRoots(12, 8);
            Disks.layNew(x, 0, Disks.MARK, 5, 0, told);
            Disks.layNew(x, 1, Disks.MARK, 4);
            check.due("recover()", x.recover(), TwinRoots.DONE);
            check.due("a ROOT that tells none and " + told + " keys", x.count(4), 4);
        }
    }

    /**
     * "all LEAVES equally deep, 12 at most". With two children at least, 62 BLOCKS have no LEAVES that
     * are equally and more than five deep, so these are LEAVES of unlike depths.
     */
    private static void leavesTooDeep(Check check) {
        for (int depth = 2; depth <= 20; depth++) {
            TwinRoots x = new TwinRoots(12, 64);
            Disks.layNew(x, 0, Disks.MARK, 5, 2, depth);
            Disks.layNew(x, 1, Disks.MARK, 4);
            for (int d = 1; d < depth; d++) {
                Disks.layNew(x, d + 1, 2, 2, d + 2, -d, 30 + d);
                Disks.layNew(x, 30 + d, 1, 1, -d, d);
            }
            Disks.layNew(x, depth + 1, 1, 1, -depth, depth);
            check.due("recover()", x.recover(), TwinRoots.DONE);
            check.due("LEAVES from 2 to " + depth + " deep", x.count(4), depth == 2 ? 5 : 4);
        }
    }

    /** "Keys below a KEY are below the children ahead of it, others below those behind it." */
    private static void keysAtTheEnds(Check check) {
        int[][] rows = {{LEAST, LEAST + 1, LEAST + 1, 1}, {LEAST, LEAST, GREATEST, 0}, {LEAST, GREATEST, GREATEST, 1},
            {GREATEST - 1, GREATEST, GREATEST, 1}, {LEAST, LEAST + 1, LEAST, 0}, {GREATEST, GREATEST, GREATEST, 0},
            {-1, 0, 0, 1}, {0, 0, 1, 0}, {-1, 1, 0, 0}};
        for (int[] row : rows) {
            TwinRoots x = new TwinRoots(12, 8);
            Disks.layNew(x, 0, Disks.MARK, 5, 2, 2);
            Disks.layNew(x, 1, Disks.MARK, 4);
            Disks.layNew(x, 2, 2, 2, 3, row[1], 4);
            Disks.layNew(x, 3, 1, 1, row[0], 30);
            Disks.layNew(x, 4, 1, 1, row[2], 40);
            String what = row[0] + " |" + row[1] + "| " + row[2];
            check.due("recover()", x.recover(), TwinRoots.DONE);
            check.due(what, x.count(4), 4 + row[3]);
            check.due(what + ": get", x.get(row[2]), row[3] == 1 ? 40 : 0);
        }
    }

    /** "A cut is armed behind n more WRITES ..; with n below 0 none is." */
    private static void writesAhead(Check check) {
        for (int n : new int[] {LEAST, -257, -2, -1, 0, 1, 2, 5, 300, GREATEST - 1, GREATEST}) {
            TwinRoots x = new TwinRoots(12, 8);
            x.format();
            x.arm(n, 0);
            int went = 0;
            while (went < 400 && x.commit() == TwinRoots.DONE) {
                went++;
            }
            boolean cut = n >= 0 && n < 400;
            check.due("commits behind arm(" + n + ", 0)", went, cut ? n : 400);
            check.due("count(3)", x.count(3), cut ? 1 : 0);
            check.due("count(2)", x.count(2), 2 + went);
        }
    }

    /** "of the next one the first t WORDS (at most all) come to the disk"; "(below 0 count as 0)" */
    private static void wordsThatCome(Check check) {
        for (int words : new int[] {12, 40}) {
            int[] ts = {LEAST, -words, -1, 0, 1, 2, 3, 4, words - 2, words - 1, words, words + 1, 2 * words, GREATEST};
            for (int t : ts) {
                TwinRoots x = new TwinRoots(words, 4);
                for (int i = 0; i < words; i++) {
                    x.decay(2, i, 1000 + i);
                    x.decay(3, i, 2000 + i);
                }
                x.format();
                x.arm(0, t);
                check.due("put with t " + t, x.put(6, 60), TwinRoots.DOWN);
                int[] whole = Disks.rowOf(words, 1, 1, 6, 60);
                for (int i = 0; i < words; i++) {
                    check.due("word(2, " + i + ") with t " + t, x.word(2, i), i < t ? whole[i] : 1000 + i);
                    check.due("word(3, " + i + ") with t " + t, x.word(3, i), 2000 + i);
                }
            }
        }
    }

    /** "in place of any other; with n below 0 none is" */
    private static void cutsAreReplaced(Check check) {
        TwinRoots x = new TwinRoots(12, 8);
        x.format();
        x.arm(0, 5);
        x.arm(-1, 5);
        check.due("none is armed", x.commit(), TwinRoots.DONE);
        x.arm(0, 12);
        x.arm(1, 1);
        check.due("the later n", x.commit(), TwinRoots.DONE);
        check.due("counts", x.commit(), TwinRoots.DOWN);
        check.due("the later t", x.word(1, 1), 1);
        x.arm(0, 0);
        x.arm(LEAST, 0);
        check.due("recover() WRITES nothing", x.recover(), TwinRoots.DONE);
        check.due("none is armed when it was DOWN, either", x.commit(), TwinRoots.DONE);
    }

    /** "The i-th key of the WORKING map (from 0 on, rising); 0 if there is none" */
    private static void placesOfKeys(Check check) {
        for (int size : new int[] {0, 1, 4, 5, 17}) {
            TwinRoots x = new TwinRoots(12, 24);
            x.format();
            for (int k = 1; k <= size; k++) {
                x.put(100 * k, -k);
            }
            for (int i : new int[] {LEAST, LEAST + 1, -size, -2, -1}) {
                check.due("key(" + i + ") of " + size, x.key(i), size == 0 || i < 0 ? 0 : 100);
            }
            for (int i = 0; i < size; i++) {
                check.due("key(" + i + ") of " + size, x.key(i), 100 * (i + 1));
            }
            for (int i : new int[] {size, size + 1, size + 64, GREATEST - 1, GREATEST}) {
                check.due("key(" + i + ") of " + size, x.key(i), 0);
            }
        }
    }

    /** "How many keys of the WORKING map are below k" */
    private static void ranks(Check check) {
        TwinRoots x = new TwinRoots(12, 24);
        x.format();
        int[] keys = {LEAST, LEAST + 1, -1, 0, 1, GREATEST - 1, GREATEST};
        for (int i = keys.length - 1; i >= 0; i--) {
            x.put(keys[i], i);
        }
        for (int i = 0; i < keys.length; i++) {
            check.due("rank(" + keys[i] + ")", x.rank(keys[i]), i);
        }
        check.due("rank(-2)", x.rank(-2), 2);
        check.due("rank(2)", x.rank(2), 5);
        x.remove(GREATEST);
        check.due("rank(GREATEST) of lesser ones", x.rank(GREATEST), 6);
        x.remove(LEAST);
        check.due("rank(LEAST) of greater ones", x.rank(LEAST), 0);
    }

    /** "keys from a to b (both counted, a not above b ..); 0 else" */
    private static void sums(Check check) {
        TwinRoots x = new TwinRoots(12, 24);
        x.format();
        for (int k = 1; k <= 9; k++) {
            x.put(10 * k, 1 << k);
        }
        check.due("a is b, a key", x.sum(50, 50), 1 << 5);
        check.due("a is b, no key", x.sum(51, 51), 0);
        check.due("a above b by 1", x.sum(50, 49), 0);
        check.due("a above b, keys between", x.sum(60, 40), 0);
        check.due("a counted", x.sum(30, 49), (1 << 3) + (1 << 4));
        check.due("b counted", x.sum(31, 50), (1 << 4) + (1 << 5));
        check.due("behind a", x.sum(31, 49), 1 << 4);
        check.due("all", x.sum(LEAST, GREATEST), 1022);
        check.due("turned", x.sum(GREATEST, LEAST), 0);
        check.due("below all", x.sum(LEAST, 9), 0);
        check.due("above all", x.sum(91, GREATEST), 0);
    }

    /** "false if there is no such WORD"; "A WORD of the disk; 0 if there is none such." */
    private static void wordsThatAreNot(Check check) {
        TwinRoots x = new TwinRoots(12, 6);
        for (int b = 0; b < 6; b++) {
            for (int w = 0; w < 12; w++) {
                x.decay(b, w, 1 + 12 * b + w);
            }
        }
        State before = State.ofDisk(x);
        int[][] none = {{-1, 0}, {-1, 11}, {-1, 12}, {0, -1}, {1, -1}, {5, -1}, {0, 12}, {0, 13}, {5, 12}, {6, 0},
            {6, -1}, {6, -12}, {7, 0}, {LEAST, 0}, {GREATEST, 0}, {0, LEAST}, {0, GREATEST}, {LEAST, LEAST},
            {GREATEST, GREATEST}, {357913942, 0}, {-357913941, 0}, {1 << 30, 3}, {2, -12}, {-2, 30}};
        for (int[] place : none) {
            String at = "(" + place[0] + ", " + place[1] + ")";
            check.due("decay" + at, x.decay(place[0], place[1], -1), false);
            check.due("word" + at, x.word(place[0], place[1]), 0);
        }
        State.ofDisk(x).sameAs(check, "decay of no WORD", before);
        check.due("the first WORD", x.decay(0, 0, -1), true);
        check.due("the last WORD", x.decay(5, 11, -1), true);
        check.due("word(0, 0)", x.word(0, 0), ~1);
        check.due("word(5, 11)", x.word(5, 11), ~72);
    }

    /** "when it is DOWN, or for no such BLOCK, -1" */
    private static void blocksThatAreNot(Check check) {
        for (int blocks : new int[] {4, 63, 64}) {
            TwinRoots x = new TwinRoots(12, blocks);
            x.format();
            x.put(1, 1);
            for (int b : new int[] {LEAST, -64, -62, -61, -2, -1, blocks, blocks + 1, 65, 66, 128, 130, GREATEST}) {
                check.due("block(" + b + ") of " + blocks, x.block(b), -1);
            }
            check.due("block(0)", x.block(0), 0);
            check.due("block(1)", x.block(1), 0);
            check.due("block(2)", x.block(2), 2);
            check.due("the last BLOCK of " + blocks, x.block(blocks - 1), 1);
        }
    }

    /** "0 for another what" */
    private static void countsThatAreNot(Check check) {
        TwinRoots x = new TwinRoots(12, 24);
        int[] none = {LEAST, -256, -10, -9, -2, -1, 10, 11, 12, 16, 18, 256, 260, GREATEST};
        for (int what : none) {
            check.due("count(" + what + ") when it is DOWN", x.count(what), 0);
        }
        x.format();
        for (int k = 1; k <= 5; k++) {
            x.put(k, k);
        }
        x.commit();
        for (int what : none) {
            check.due("count(" + what + ")", x.count(what), 0);
        }
    }
}
