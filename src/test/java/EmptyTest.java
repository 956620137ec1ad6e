/** The sentences of the document that tell of what is empty, in its order. */
final class EmptyTest {
    public static void main(String[] args) {
        Check check = new Check("EmptyTest");
        emptyDisk(check);
        formattedDisk(check);
        formatEmpties(check);
        firstKey(check);
        nothingToRemove(check);
        emptyCommit(check);
        emptyRootIsRight(check);
        lastFreshKey(check);
        lastCommittedKey(check);
        lastKeyWithoutRoom(check);
        lastKeyIsNoWrite(check);
        lastKeyOfALargerTree(check);
        uppermostWithOneChild(check);
        leafThatRunsEmpty(check);
        emptyLeafIsNotRight(check);
        valuesOfNothing(check);
        check.end();
    }

    private static TwinRoots formatted(int blocks) {
        TwinRoots x = new TwinRoots(12, blocks);
        x.format();
        return x;
    }

    private static void mapIsEmpty(Check check, String what, TwinRoots x) {
        check.due(what + ": size()", x.size(), 0);
        for (int k : new int[] {Integer.MIN_VALUE, -1, 0, 1, 5, Integer.MAX_VALUE}) {
            check.due(what + ": get", x.get(k), 0);
            check.due(what + ": contains", x.contains(k), false);
            check.due(what + ": rank", x.rank(k), 0);
            check.due(what + ": key", x.key(k), 0);
        }
        check.due(what + ": sum", x.sum(Integer.MIN_VALUE, Integer.MAX_VALUE), 0);
        check.due(what + ": it is up", x.count(3), 0);
        check.due(what + ": how deep", x.count(6), 0);
        check.due(what + ": the uppermost", x.count(7), 0);
        check.due(what + ": NODES", x.count(8), 0);
    }

    /** "At first the disk is 0 all over, and it is DOWN." "Without a RIGHT ROOT it stays DOWN: NOTHING." */
    private static void emptyDisk(Check check) {
        TwinRoots x = new TwinRoots(12, 8);
        for (int b = 0; b < 8; b++) {
            for (int w = 0; w < 12; w++) {
                check.due("word(" + b + ", " + w + ")", x.word(b, w), 0);
            }
        }
        check.due("count(3)", x.count(3), 1);
        check.due("size()", x.size(), -1);
        check.due("recover()", x.recover(), TwinRoots.NOTHING);
        check.due("count(3)", x.count(3), 1);
        check.due("count(2)", x.count(2), 0);
    }

    /** "both with EPOCH 0, none, 0. Both maps are empty, ROOT 0 is the LATEST, it is up." */
    private static void formattedDisk(Check check) {
        TwinRoots x = formatted(8);
        Disks.due(check, x, 0, Disks.MARK, 0, 0, 0);
        Disks.due(check, x, 1, Disks.MARK, 0, 0, 0);
        mapIsEmpty(check, "format()", x);
        check.due("was(0)", x.was(0), 0);
        check.due("count(9)", x.count(9), 0);
        check.due("count(5)", x.count(5), 6);
        check.due("count(2)", x.count(2), 2);
        check.due("recover()", x.recover(), TwinRoots.DONE);
        mapIsEmpty(check, "recover()", x);
    }

    private static void formatEmpties(Check check) {
        TwinRoots x = PutTest.rising(16, 9);
        x.commit();
        x.put(1, 5);
        x.format();
        mapIsEmpty(check, "format()", x);
        check.due("was(2)", x.was(2), 0);
        check.due("count(9)", x.count(9), 0);
        check.due("count(4)", x.count(4), 0);
        check.due("count(5)", x.count(5), 14);
        check.due("put(5, 5)", x.put(5, 5), TwinRoots.DONE);
        check.due("in the least BLOCK", x.count(7), 2);
        check.due("size()", x.size(), 1);
    }

    /** "Into the LEAF where the key belongs (a new one, if there is none)" */
    private static void firstKey(Check check) {
        for (int k : new int[] {Integer.MIN_VALUE, -1, 0, 1, Integer.MAX_VALUE}) {
            TwinRoots x = formatted(4);
            check.due("put", x.put(k, -k), TwinRoots.DONE);
            Disks.due(check, x, 2, 1, 1, k, -k);
            check.due("one WRITE", x.count(2), 3);
            check.due("how deep", x.count(6), 1);
            check.due("the uppermost", x.count(7), 2);
            check.due("NODES", x.count(8), 1);
            check.due("block(2)", x.block(2), 2);
            check.due("get", x.get(k), -k);
            check.due("key(0)", x.key(0), k);
            check.due("size()", x.size(), 1);
            check.due("keys of the committed map", x.count(9), 0);
        }
    }

    /** "A key that is not there: nothing changes." */
    private static void nothingToRemove(Check check) {
        TwinRoots x = formatted(8);
        State before = State.of(x, 0);
        for (int k : new int[] {Integer.MIN_VALUE, -1, 0, 1, Integer.MAX_VALUE}) {
            check.due("remove(" + k + ")", x.remove(k), TwinRoots.ABSENT);
        }
        State.of(x, 0).sameAs(check, "remove from no NODE", before);
    }

    /** COMMIT with no NODE: "2 the BLOCK of the uppermost NODE (0: none), 3 how many keys there are" */
    private static void emptyCommit(Check check) {
        TwinRoots x = formatted(8);
        check.due("commit()", x.commit(), TwinRoots.DONE);
        Disks.due(check, x, 1, Disks.MARK, 1, 0, 0);
        check.due("commit()", x.commit(), TwinRoots.DONE);
        Disks.due(check, x, 0, Disks.MARK, 2, 0, 0);
        mapIsEmpty(check, "commit()", x);
        check.due("count(5)", x.count(5), 6);
        check.due("recover()", x.recover(), TwinRoots.DONE);
        check.due("count(4)", x.count(4), 2);
        mapIsEmpty(check, "recover()", x);
    }

    /** "WORD 2 is 0 (and WORD 3, too)" */
    private static void emptyRootIsRight(Check check) {
        TwinRoots x = new TwinRoots(12, 8);
        Disks.layNew(x, 1, Disks.MARK, 9, 0, 0);
        check.due("none, 0 keys", x.recover(), TwinRoots.DONE);
        check.due("count(4)", x.count(4), 9);
        mapIsEmpty(check, "none, 0 keys", x);
        Disks.due(check, x, 0, Disks.MARK, 9, 0, 0);
        TwinRoots y = new TwinRoots(12, 8);
        Disks.layNew(y, 1, Disks.MARK, 9, 0, 1);
        check.due("none, 1 key", y.recover(), TwinRoots.NOTHING);
        TwinRoots z = new TwinRoots(12, 8);
        Disks.layNew(z, 1, Disks.MARK, 9, 2, 0);
        Disks.layNew(z, 2, 1, 1, 5, 50);
        check.due("a LEAF, 0 keys", z.recover(), TwinRoots.NOTHING);
    }

    /** "an uppermost LEAF without keys drops out, there is none then" */
    private static void lastFreshKey(Check check) {
        TwinRoots x = formatted(8);
        x.put(5, 50);
        check.due("remove(5)", x.remove(5), TwinRoots.DONE);
        mapIsEmpty(check, "a FRESH LEAF", x);
        check.due("its BLOCK is FREE behind the call", x.block(2), 1);
        check.due("count(5)", x.count(5), 6);
        check.due("remove(5)", x.remove(5), TwinRoots.ABSENT);
        check.due("put(6, 60)", x.put(6, 60), TwinRoots.DONE);
        check.due("the least FREE BLOCK again", x.count(7), 2);
        Disks.due(check, x, 2, 1, 1, 6, 60);
        x.remove(6);
        check.due("commit()", x.commit(), TwinRoots.DONE);
        Disks.due(check, x, 1, Disks.MARK, 1, 0, 0);
    }

    private static void lastCommittedKey(Check check) {
        TwinRoots x = formatted(8);
        x.put(5, 50);
        x.commit();
        check.due("remove(5)", x.remove(5), TwinRoots.DONE);
        mapIsEmpty(check, "a LEAF that is not FRESH", x);
        check.due("its BLOCK is reached from a ROOT", x.block(2), 4);
        check.due("was(5)", x.was(5), 50);
        check.due("count(9)", x.count(9), 1);
        Disks.due(check, x, 2, 1, 1, 5, 50);
        x.put(6, 60);
        check.due("another BLOCK is taken", x.count(7), 3);
        x.remove(6);
        x.commit();
        check.due("was(5)", x.was(5), 0);
        check.due("count(9)", x.count(9), 0);
        check.due("ROOT 1 reaches it still", x.block(2), 4);
        x.commit();
        check.due("no ROOT reaches it", x.block(2), 1);
        check.due("recover()", x.recover(), TwinRoots.DONE);
        mapIsEmpty(check, "recover()", x);
    }

    /** Nothing is WRITTEN when the last LEAF drops out, so no BLOCK is needed. */
    private static void lastKeyWithoutRoom(Check check) {
        TwinRoots x = formatted(4);
        x.put(5, 50);
        x.commit();
        x.put(5, 51);
        x.commit();
        check.due("count(5)", x.count(5), 0);
        check.due("put(5, 52)", x.put(5, 52), TwinRoots.NOROOM);
        check.due("remove(5)", x.remove(5), TwinRoots.DONE);
        mapIsEmpty(check, "no FREE BLOCK", x);
        check.due("put(5, 52)", x.put(5, 52), TwinRoots.NOROOM);
        mapIsEmpty(check, "NOROOM", x);
        x.commit();
        check.due("put(5, 52)", x.put(5, 52), TwinRoots.DONE);
        check.due("get(5)", x.get(5), 52);
    }

    private static void lastKeyIsNoWrite(Check check) {
        TwinRoots x = formatted(8);
        x.put(5, 50);
        x.arm(0, 0);
        check.due("remove(5)", x.remove(5), TwinRoots.DONE);
        check.due("count(2)", x.count(2), 3);
        check.due("the cut is still armed", x.put(5, 50), TwinRoots.DOWN);
    }

    private static void lastKeyOfALargerTree(Check check) {
        for (int first : new int[] {1, -1}) {
            TwinRoots x = PutTest.rising(24, 17);
            for (int i = 1; i <= 17; i++) {
                check.due("remove", x.remove(first > 0 ? i : 18 - i), TwinRoots.DONE);
                check.due("size()", x.size(), 17 - i);
            }
            mapIsEmpty(check, "17 keys that went", x);
            check.due("all are FREE", x.count(5), 22);
        }
    }

    /** "An uppermost INNER NODE with one child drops out, that child is uppermost" */
    private static void uppermostWithOneChild(Check check) {
        TwinRoots x = PutTest.rising(16, 5);
        int writes = x.count(2);
        x.remove(5);
        check.due("the LEAF alone is WRITTEN", x.count(2), writes + 1);
        check.due("count(6)", x.count(6), 1);
        check.due("count(7)", x.count(7), 2);
        check.due("count(8)", x.count(8), 1);
        check.due("the right LEAF", x.block(3), 1);
        check.due("the INNER", x.block(4), 1);
        Disks.due(check, x, 4, 2, 2, 2, 4, 3);
        Disks.due(check, x, 2, 1, 4, 1, 10, 2, 20, 3, 30, 4, 40);
    }

    /** A LEAF that a tree laid by hand lets run empty is MENDED, as it is below LMIN. */
    private static void leafThatRunsEmpty(Check check) {
        for (int gone = 0; gone < 3; gone++) {
            TwinRoots x = new TwinRoots(12, 12);
            Disks.layNew(x, 0, Disks.MARK, 0, 2, 3);
            Disks.layNew(x, 2, 2, 3, 3, 10, 4, 20, 5);
            for (int i = 0; i < 3; i++) {
                Disks.layNew(x, 3 + i, 1, 1, 10 * i, i);
            }
            x.recover();
            check.due("remove", x.remove(10 * gone), TwinRoots.DONE);
            check.due("size()", x.size(), 2);
            check.due("NODES", x.count(8), 3);
            int left = gone == 2 ? 10 : gone == 1 ? 0 : 10;
            Disks.due(check, x, 6, 1, 1, left, left / 10);
            check.due("key(0)", x.key(0), gone == 0 ? 10 : 0);
            check.due("key(1)", x.key(1), gone == 2 ? 10 : 20);
        }
    }

    /** "how many keys (1 .. LMOST)" */
    private static void emptyLeafIsNotRight(Check check) {
        TwinRoots x = new TwinRoots(12, 8);
        Disks.layNew(x, 0, Disks.MARK, 0, 2, 0);
        Disks.layNew(x, 2, 1, 0);
        check.due("an uppermost LEAF without keys", x.recover(), TwinRoots.NOTHING);
        TwinRoots y = new TwinRoots(12, 8);
        Disks.layNew(y, 0, Disks.MARK, 0, 2, 1);
        Disks.layNew(y, 2, 2, 2, 3, 10, 4);
        Disks.layNew(y, 3, 1, 1, 5, 50);
        Disks.layNew(y, 4, 1, 0);
        check.due("a LEAF without keys", y.recover(), TwinRoots.NOTHING);
    }

    /** "0 if it is not there", told apart from a value of 0 by contains alone. */
    private static void valuesOfNothing(Check check) {
        TwinRoots x = formatted(8);
        x.put(0, 0);
        check.due("get(0)", x.get(0), 0);
        check.due("contains(0)", x.contains(0), true);
        check.due("contains(1)", x.contains(1), false);
        check.due("key(0)", x.key(0), 0);
        check.due("size()", x.size(), 1);
        check.due("a key of 0 goes", x.remove(0), TwinRoots.DONE);
        mapIsEmpty(check, "a key of 0 that went", x);
    }
}
