import java.util.function.IntFunction;
import java.util.function.ToIntFunction;

/**
 * The sentences of the document that tell of what is full: LMOST and CMOST (and LMIN and CMIN, where
 * it is too empty), and a disk that has no FREE BLOCK.
 */
final class FullTest {
    public static void main(String[] args) {
        Check check = new Check("FullTest");
        for (int words = 12; words <= 40; words++) {
            FullTest of = new FullTest(check, words);
            of.leafIsFull();
            of.newKeyInAFullLeaf();
            of.innerIsFull();
            of.leafAtLeast();
            of.firstLeafAtLeast();
            of.leavesJoinedFull();
            of.leavesParted();
            of.innersJoinedFull();
            of.innersParted();
            of.innerAtLeast();
        }
        theLimitsInNumbers(check);
        enoughAndOneTooFew(check);
        whatDropsOutIsNotTaken(check);
        whatDropsOutBelowIsNotTaken(check);
        theLastBlock(check);
        fullDiskCommits(check);
        theLeastDisk(check);
        leastNumberIsTaken(check);
        check.end();
    }

    private final Check check;
    private final int words;
    private final int lmost;
    private final int cmost;
    private final int lmin;
    private final int cmin;
    private final int half;
    private final int rest;
    private final int upperHalf;

    /** With half and rest a LEAF with LMOST + 1 keys is parted, upperHalf is of CMOST + 1 children. */
    private FullTest(Check check, int words) {
        this.check = check;
        this.words = words;
        lmost = (words - 3) / 2;
        cmost = (words - 2) / 2;
        lmin = lmost / 2;
        cmin = (cmost + 1) / 2;
        half = (lmost + 1) / 2 + (lmost + 1) % 2;
        rest = lmost + 1 - half;
        upperHalf = (cmost + 1) / 2 + (cmost + 1) % 2;
    }

    private static void theLimitsInNumbers(Check check) {
        int[][] rows = {{12, 4, 5, 2, 3}, {13, 5, 5, 2, 3}, {14, 5, 6, 2, 3}, {15, 6, 6, 3, 3}, {16, 6, 7, 3, 4},
            {17, 7, 7, 3, 4}, {38, 17, 18, 8, 9}, {39, 18, 18, 9, 9}, {40, 18, 19, 9, 10}};
        for (int[] row : rows) {
            FullTest of = new FullTest(check, row[0]);
            check.due("LMOST of " + row[0], of.lmost, row[1]);
            check.due("CMOST of " + row[0], of.cmost, row[2]);
            check.due("LMIN of " + row[0], of.lmin, row[3]);
            check.due("CMIN of " + row[0], of.cmin, row[4]);
        }
    }

    private TwinRoots rising(int keys) {
        TwinRoots x = new TwinRoots(words, 64);
        x.format();
        for (int k = 1; k <= keys; k++) {
            x.put(k, -k);
        }
        return x;
    }

    /** How many rising keys it takes until there are so many LEAVES: each but the last two gets half. */
    private int keysForLeaves(int leaves) {
        return lmost + 1 + (leaves - 2) * half;
    }

    /** Of rising keys the third LEAF and those behind it come behind the uppermost NODE in BLOCK 4. */
    private static int blockOfLeaf(int i) {
        return i < 2 ? 2 + i : 3 + i;
    }

    private void due(String what, long got, long want) {
        check.due(words + " WORDS: " + what, got, want);
    }

    private void leafIs(TwinRoots x, int block, int first, int many) {
        int[] row = new int[2 + 2 * many];
        row[0] = 1;
        row[1] = many;
        for (int i = 0; i < many; i++) {
            row[2 + 2 * i] = first + i;
            row[3 + 2 * i] = -(first + i);
        }
        Disks.due(check, x, block, row);
    }

    /** An INNER over LEAVES of rising keys, from one of them (the first is 0) on. */
    private void innerIs(TwinRoots x, int block, int firstLeaf, int many) {
        int[] row = new int[1 + 2 * many];
        row[0] = 2;
        row[1] = many;
        for (int i = 0; i < many; i++) {
            row[2 + 2 * i] = blockOfLeaf(firstLeaf + i);
            if (i > 0) {
                row[1 + 2 * i] = (firstLeaf + i) * half + 1;
            }
        }
        Disks.due(check, x, block, row);
    }

    /** Removes the greatest keys down to one; each is one WRITE, as nothing is MENDED. */
    private void removeDownTo(TwinRoots x, int from, int to) {
        for (int k = from; k > to; k--) {
            int writes = x.count(2);
            due("remove(" + k + ")", x.remove(k), TwinRoots.DONE);
            due("the LEAF alone is WRITTEN", x.count(2), writes + 1);
        }
    }

    /** "With LMOST + 1 keys the LEAF becomes two: the first half (rounded up) stays in it" */
    private void leafIsFull() {
        TwinRoots x = rising(lmost);
        due("NODES", x.count(8), 1);
        leafIs(x, 2, 1, lmost);
        int writes = x.count(2);
        due("put", x.put(lmost + 1, -(lmost + 1)), TwinRoots.DONE);
        due("WRITES", x.count(2), writes + 3);
        leafIs(x, 2, 1, half);
        leafIs(x, 3, half + 1, rest);
        Disks.due(check, x, 4, 2, 2, 2, half + 1, 3);
        due("the uppermost", x.count(7), 4);
        due("how deep", x.count(6), 2);
    }

    /** The new key is one of the LMOST + 1, wherever it comes; a key that is there makes none more. */
    private void newKeyInAFullLeaf() {
        TwinRoots x = rising(lmost);
        for (int k = 1; k <= lmost; k++) {
            due("put of a key that is there", x.put(k, -k), TwinRoots.DONE);
        }
        due("NODES", x.count(8), 1);
        x.put(0, 0);
        leafIs(x, 2, 0, half);
        leafIs(x, 3, half, rest);
        Disks.due(check, x, 4, 2, 2, 2, half, 3);
        for (int gap = 2; gap <= lmost; gap += lmost - 2) {
            TwinRoots y = new TwinRoots(words, 64);
            y.format();
            for (int k = 1; k <= lmost + 1; k++) {
                if (k != gap) {
                    y.put(k, -k);
                }
            }
            y.put(gap, -gap);
            leafIs(y, 2, 1, half);
            leafIs(y, 3, half + 1, rest);
        }
    }

    /** "with CMOST + 1 children it becomes two: the first half (rounded up) stays .. the KEY .. goes up" */
    private void innerIsFull() {
        int keys = keysForLeaves(cmost + 1);
        TwinRoots x = rising(keys - 1);
        due("how deep", x.count(6), 2);
        due("NODES", x.count(8), cmost + 1);
        innerIs(x, 4, 0, cmost);
        int writes = x.count(2);
        due("put", x.put(keys, -keys), TwinRoots.DONE);
        due("WRITES", x.count(2), writes + 5);
        due("how deep", x.count(6), 3);
        due("NODES", x.count(8), cmost + 4);
        due("the new LEAF", blockOfLeaf(cmost), cmost + 3);
        due("the uppermost", x.count(7), cmost + 5);
        innerIs(x, 4, 0, upperHalf);
        innerIs(x, cmost + 4, upperHalf, cmost + 1 - upperHalf);
        Disks.due(check, x, cmost + 5, 2, 2, 4, upperHalf * half + 1, cmost + 4);
    }

    /** "A LEAF below LMIN that is not the uppermost NODE is MENDED"; one at LMIN is not. */
    private void leafAtLeast() {
        TwinRoots x = rising(lmost + 1);
        removeDownTo(x, lmost + 1, half + lmin);
        due("NODES", x.count(8), 3);
        leafIs(x, 3, half + 1, lmin);
        due("remove", x.remove(half + lmin), TwinRoots.DONE);
        due("NODES", x.count(8), 1);
        leafIs(x, 2, 1, half + lmin - 1);
        removeDownTo(x, half + lmin - 1, 1);
        due("the uppermost LEAF is never MENDED", x.count(8), 1);
        leafIs(x, 2, 1, 1);
    }

    /** "or, for the first one, the one behind it": all come to the left one. */
    private void firstLeafAtLeast() {
        TwinRoots x = rising(lmost + 1);
        for (int k = 1; k <= half - lmin; k++) {
            x.remove(k);
        }
        due("NODES", x.count(8), 3);
        leafIs(x, 2, half - lmin + 1, lmin);
        x.remove(half - lmin + 1);
        due("NODES", x.count(8), 1);
        due("the left one", x.count(7), 2);
        leafIs(x, 2, half - lmin + 2, lmin - 1 + rest);
    }

    /** Two LEAVES with so many keys together when the last one comes to LMIN - 1. */
    private TwinRoots leavesBeforeMending(int together) {
        TwinRoots x = rising(lmost + 1);
        for (int k = 0; k > half + lmin - 1 - together; k--) {
            x.put(k, -k);
        }
        due("NODES", x.count(8), 3);
        removeDownTo(x, lmost + 1, half + lmin);
        return x;
    }

    /** "If both together have no more than LMOST keys, all come to the left one" */
    private void leavesJoinedFull() {
        TwinRoots x = leavesBeforeMending(lmost);
        int writes = x.count(2);
        x.remove(half + lmin);
        due("WRITES", x.count(2), writes + 1);
        due("NODES", x.count(8), 1);
        leafIs(x, 2, half + lmin - lmost, lmost);
    }

    /** "else the left one has the first half of them (rounded up), the right one the rest" */
    private void leavesParted() {
        TwinRoots x = leavesBeforeMending(lmost + 1);
        int writes = x.count(2);
        x.remove(half + lmin);
        due("WRITES", x.count(2), writes + 3);
        due("NODES", x.count(8), 3);
        int first = half + lmin - 1 - lmost;
        leafIs(x, 2, first, half);
        leafIs(x, 3, first + half, rest);
        Disks.due(check, x, 4, 2, 2, 2, first + half, 3);
    }

    /** INNER NODES "likewise (with CMOST)": CMIN - 1 and the half that stayed are CMOST. */
    private void innersJoinedFull() {
        int keys = keysForLeaves(cmost + 1);
        TwinRoots x = rising(keys);
        removeDownTo(x, keys, keys - rest + lmin);
        int writes = x.count(2);
        x.remove(keys - rest + lmin);
        due("WRITES", x.count(2), writes + 2);
        due("how deep", x.count(6), 2);
        due("the uppermost", x.count(7), 4);
        due("NODES", x.count(8), cmost + 1);
        innerIs(x, 4, 0, cmost);
        for (int b = cmost + 3; b <= cmost + 5; b++) {
            due("block(" + b + ")", x.block(b), 1);
        }
    }

    /** "of those that are parted the KEY at the place goes up": a LEAF more makes CMOST + 1. */
    private void innersParted() {
        int keys = keysForLeaves(cmost + 1);
        TwinRoots x = rising(keys);
        for (int k = 0; k > half - lmost - 1; k--) {
            x.put(k, -k);
        }
        due("children of the left one", x.word(4, 1), upperHalf + 1);
        removeDownTo(x, keys, keys - rest + lmin);
        int writes = x.count(2);
        x.remove(keys - rest + lmin);
        due("WRITES", x.count(2), writes + 4);
        due("how deep", x.count(6), 3);
        due("children of the left one", x.word(4, 1), upperHalf);
        Disks.due(check, x, cmost + 5, 2, 2, 4, (upperHalf - 1) * half + 1, cmost + 4);
        innerIs(x, cmost + 4, upperHalf - 1, cmost + 1 - upperHalf);
    }

    /** "INNER NODES with fewer children than CMIN": one with CMIN is not MENDED. */
    private void innerAtLeast() {
        int keys = keysForLeaves(cmost + 2);
        TwinRoots x = rising(keys);
        due("one more than CMIN", x.word(cmost + 4, 1), cmin + 1);
        removeDownTo(x, keys, keys - rest + lmin);
        int writes = x.count(2);
        x.remove(keys - rest + lmin);
        due("the LEAF and the one above", x.count(2), writes + 2);
        due("CMIN", x.word(cmost + 4, 1), cmin);
        due("how deep", x.count(6), 3);
        due("NODES", x.count(8), cmost + 4);
    }

    /** "If a call needs more BLOCKS than are FREE, it is NOROOM, and nothing changes (no WRITE, either)." */
    private static void enoughAndOneTooFew(Check check) {
        room(check, "a new LEAF and the uppermost, of FRESH ones", b -> PutTest.rising(b, 4), 3, 2, x -> x.put(5, 1));
        room(check, "a LEAF that becomes two", b -> committed(b, 4), 3, 3, x -> x.put(5, 1));
        room(check, "a LEAF and the uppermost", b -> committed(b, 5), 5, 2, x -> x.put(5, 1));
        room(check, "INNER NODES that become two, of FRESH ones", b -> PutTest.rising(b, 16), 8, 3, x -> x.put(17, 1));
        room(check, "INNER NODES that become two", b -> committed(b, 16), 8, 5, x -> x.put(17, 1));
        room(check, "three deep", b -> committed(b, 17), 11, 3, x -> x.put(1, 1));
        room(check, "a key that goes, two deep", b -> committed(b, 5), 5, 2, x -> x.remove(1));
        room(check, "LEAVES that are joined", b -> committed(b, 5), 5, 1, x -> x.remove(5));
        room(check, "three LEAVES, two of them joined", b -> committed(b, 8), 6, 2, x -> x.remove(8));
        room(check, "LEAVES that are parted", FullTest::firstLeafAtLMin, 5, 3, x -> x.remove(2));
        room(check, "INNER NODES that are joined", b -> committed(b, 17), 11, 2, x -> x.remove(17));
        room(check, "INNER NODES that are parted", FullTest::fourLeavesInTheFirst, 12, 4, x -> x.remove(17));
        room(check, "a key that goes, three deep", b -> committed(b, 17), 11, 3, x -> x.remove(1));
    }

    private static TwinRoots committed(int blocks, int keys) {
        TwinRoots x = PutTest.rising(blocks, keys);
        x.commit();
        return x;
    }

    private static TwinRoots firstLeafAtLMin(int blocks) {
        TwinRoots x = PutTest.rising(blocks, 7);
        x.remove(1);
        x.commit();
        return x;
    }

    private static TwinRoots fourLeavesInTheFirst(int blocks) {
        TwinRoots x = PutTest.rising(blocks, 17);
        x.put(0, 0);
        x.put(-1, 0);
        x.commit();
        return x;
    }

    private static void room(Check check, String what, IntFunction<TwinRoots> tree, int used, int needs,
            ToIntFunction<TwinRoots> call) {
        TwinRoots x = tree.apply(used + needs);
        check.due(what + ": count(5)", x.count(5), needs);
        check.due(what + ": enough", call.applyAsInt(x), TwinRoots.DONE);
        check.due(what + ": all are taken", x.count(5), 0);
        TwinRoots y = tree.apply(used + needs - 1);
        int[] asked = {1, 2, 5, 8, 17};
        State before = State.of(y, asked);
        y.arm(0, 2);
        check.due(what + ": one too few", call.applyAsInt(y), TwinRoots.NOROOM);
        State.of(y, asked).sameAs(check, what, before);
        check.due(what + ": the cut is still armed", y.commit(), TwinRoots.DOWN);
    }

    /** "what drops out of the WORKING tree in a call may be FREE only behind the call" */
    private static void whatDropsOutIsNotTaken(Check check) {
        for (int blocks = 8; blocks <= 10; blocks++) {
            TwinRoots x = PutTest.rising(blocks, 8);
            x.commit();
            x.put(8, 1);
            check.due("the FRESH LEAF", x.block(6), 2);
            check.due("count(5)", x.count(5), blocks - 8);
            State before = State.of(x, 7, 8);
            if (blocks == 8) {
                check.due("its BLOCK is not FREE yet", x.remove(8), TwinRoots.NOROOM);
                State.of(x, 7, 8).sameAs(check, "NOROOM", before);
            } else {
                check.due("remove(8)", x.remove(8), TwinRoots.DONE);
                Disks.due(check, x, 8, 1, 4, 4, 40, 5, 50, 6, 60, 7, 70);
                Disks.due(check, x, 7, 2, 2, 2, 4, 8);
                check.due("it is FREE behind the call", x.block(6), 1);
                check.due("put(1, 1)", x.put(1, 1), TwinRoots.DONE);
                check.due("and is taken by the next one", x.block(6), 2);
            }
        }
    }

    /** The same, where a LEAF dropped out and an INNER NODE needs a BLOCK in the same call. */
    private static void whatDropsOutBelowIsNotTaken(Check check) {
        for (int blocks = 15; blocks <= 16; blocks++) {
            TwinRoots x = committed(blocks, 17);
            x.put(17, 1);
            check.due("LEAF 11, INNER 12, uppermost 13", x.count(7), 13);
            check.due("count(5)", x.count(5), blocks - 14);
            if (blocks == 15) {
                check.due("two are needed", x.remove(17), TwinRoots.NOROOM);
                check.due("get(17)", x.get(17), 1);
                check.due("count(7)", x.count(7), 13);
            } else {
                check.due("remove(17)", x.remove(17), TwinRoots.DONE);
                Disks.due(check, x, 14, 1, 4, 13, 130, 14, 140, 15, 150, 16, 160);
                Disks.due(check, x, 15, 2, 5, 2, 4, 3, 7, 5, 10, 6, 13, 14);
                check.due("count(7)", x.count(7), 15);
                for (int b = 11; b <= 13; b++) {
                    check.due("block(" + b + ")", x.block(b), 1);
                }
            }
        }
    }

    /** The last BLOCK is taken as the others are, and no other behind it. */
    private static void theLastBlock(Check check) {
        TwinRoots x = new TwinRoots(12, 64);
        x.format();
        int keys = 0;
        while (keys < 300 && x.put(keys + 1, -keys) == TwinRoots.DONE) {
            keys++;
        }
        check.due("keys on 64 BLOCKS", keys, keysOnAFullDisk());
        check.due("FREE BLOCKS", x.count(5), 0);
        check.due("NODES", x.count(8), 62);
        check.due("block(63)", x.block(63), 2);
        check.due("NOROOM", x.put(keys + 1, 0), TwinRoots.NOROOM);
        check.due("a FRESH LEAF needs none", x.put(keys, 7), TwinRoots.DONE);
        check.due("size()", x.size(), keys);
        check.due("commit()", x.commit(), TwinRoots.DONE);
        check.due("block(63)", x.block(63), 3);
        check.due("recover()", x.recover(), TwinRoots.DONE);
        check.due("NODES", x.count(8), 62);
        check.due("block(63)", x.block(63), 3);
        check.due("get(" + keys + ")", x.get(keys), 7);
        check.due("key(" + (keys - 1) + ")", x.key(keys - 1), keys);
        check.due("put", x.put(1, 1), TwinRoots.NOROOM);
        check.due("remove", x.remove(1), TwinRoots.NOROOM);
        check.due("remove of no key", x.remove(0), TwinRoots.ABSENT);
    }

    /**
     * Of rising keys, with 12 WORDS, LEAVES have three keys but the last one, and INNER NODES three
     * children but the last ones, which have up to five: counts NODES level by level.
     */
    private static int keysOnAFullDisk() {
        int keys = 4;
        while (nodesOf(keys + 1) <= 62) {
            keys++;
        }
        return keys;
    }

    private static int nodesOf(int keys) {
        int level = keys <= 4 ? 1 : 2 + (keys - 5) / 3;
        int nodes = level;
        while (level > 1) {
            level = level <= 5 ? 1 : 2 + (level - 6) / 3;
            nodes += level;
        }
        return nodes;
    }

    private static void fullDiskCommits(Check check) {
        TwinRoots x = PutTest.rising(5, 5);
        check.due("count(5)", x.count(5), 0);
        check.due("commit() needs none", x.commit(), TwinRoots.DONE);
        check.due("put", x.put(1, 1), TwinRoots.NOROOM);
        check.due("commit()", x.commit(), TwinRoots.DONE);
        check.due("both ROOTS reach the same ones", x.put(1, 1), TwinRoots.NOROOM);
        check.due("format() needs none", x.word(0, 1), 2);
        x.format();
        check.due("count(5)", x.count(5), 3);
    }

    /** Four BLOCKS: two ROOTS and two others, of which one is FREE when both ROOTS are alike. */
    private static void theLeastDisk(Check check) {
        TwinRoots x = new TwinRoots(12, 4);
        x.format();
        for (int round = 0; round < 4; round++) {
            check.due("put", x.put(1, round), TwinRoots.DONE);
            check.due("commit()", x.commit(), TwinRoots.DONE);
            check.due("put", x.put(1, 100 + round), round == 0 ? TwinRoots.DONE : TwinRoots.NOROOM);
            check.due("commit()", x.commit(), TwinRoots.DONE);
            check.due("count(5)", x.count(5), round == 0 ? 0 : 1);
            check.due("commit()", x.commit(), TwinRoots.DONE);
            check.due("count(5)", x.count(5), 1);
            check.due("get(1)", x.get(1), round == 0 ? 100 : round);
        }
    }

    /** "it takes the FREE BLOCK with the least number" */
    private static void leastNumberIsTaken(Check check) {
        TwinRoots x = PutTest.rising(16, 11);
        check.due("LEAVES in 2, 3, 5, 6, the uppermost in 4", x.count(8), 5);
        x.remove(5);
        x.remove(4);
        check.due("one dropped out", x.block(3), 1);
        for (int k = 12; k <= 14; k++) {
            check.due("put", x.put(k, 10 * k), TwinRoots.DONE);
        }
        check.due("its BLOCK is taken", x.block(3), 2);
        Disks.due(check, x, 3, 1, 2, 13, 130, 14, 140);
        check.due("block(7)", x.block(7), 1);
    }
}
