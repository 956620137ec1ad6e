/** Promise 4: remove. With 12 WORDS LMOST is 4, LMIN 2, CMOST 5, CMIN 3. */
final class RemoveTest {
    public static void main(String[] args) {
        Check check = new Check("RemoveTest");
        absent(check);
        keyMayStay(check);
        joinedWithTheOneAhead(check);
        joinedWithTheOneBehind(check);
        parted(check);
        innerJoinedWithTheOneAhead(check);
        innerJoinedWithTheOneBehind(check);
        innerParted(check);
        lastKey(check);
        writesAnew(check);
        keyMayStayAnew(check);
        partedAnew(check);
        leavesPartedAnew(check);
        innersPartedAnew(check);
        fourteenWords(check);
        noRoom(check);
        down(check);
        underfullTree(check);
        underfullFreshPath(check);
        check.end();
    }

    private static void removes(Check check, TwinRoots x, int k, int writes) {
        int before = x.count(2);
        int size = x.size();
        check.due("remove(" + k + ")", x.remove(k), TwinRoots.DONE);
        check.due("WRITES of remove(" + k + ")", x.count(2) - before, writes);
        check.due("size()", x.size(), size - 1);
        check.due("contains(" + k + ")", x.contains(k), false);
    }

    private static void absent(Check check) {
        TwinRoots x = new TwinRoots(12, 8);
        x.format();
        check.due("of an empty map", x.remove(1), TwinRoots.ABSENT);
        x.put(5, 50);
        x.arm(0, 0);
        for (int k : new int[] {4, 6, 0, Integer.MIN_VALUE, Integer.MAX_VALUE}) {
            check.due("remove(" + k + ")", x.remove(k), TwinRoots.ABSENT);
        }
        check.due("no WRITE", x.count(2), 3);
        check.due("it is up", x.count(3), 0);
        check.due("size()", x.size(), 1);
    }

    private static void keyMayStay(Check check) {
        TwinRoots x = PutTest.rising(16, 6);
        removes(check, x, 4, 1);
        Disks.due(check, x, 3, 1, 2, 5, 50, 6, 60);
        Disks.due(check, x, 4, 2, 2, 2, 4, 3);
        check.due("put(4, 1)", x.put(4, 1), TwinRoots.DONE);
        Disks.due(check, x, 3, 1, 3, 4, 1, 5, 50, 6, 60);
    }

    private static void joinedWithTheOneAhead(Check check) {
        TwinRoots x = PutTest.rising(16, 8);
        removes(check, x, 6, 1);
        removes(check, x, 8, 2);
        Disks.due(check, x, 3, 1, 3, 4, 40, 5, 50, 7, 70);
        Disks.due(check, x, 4, 2, 2, 2, 4, 3);
        check.due("block(5)", x.block(5), 1);
        removes(check, x, 7, 1);
        removes(check, x, 5, 1);
        Disks.due(check, x, 2, 1, 4, 1, 10, 2, 20, 3, 30, 4, 40);
        check.due("count(7)", x.count(7), 2);
        check.due("count(8)", x.count(8), 1);
        check.due("count(5)", x.count(5), 13);
    }

    private static void joinedWithTheOneBehind(Check check) {
        TwinRoots x = PutTest.rising(16, 8);
        removes(check, x, 1, 1);
        removes(check, x, 2, 2);
        Disks.due(check, x, 2, 1, 4, 3, 30, 4, 40, 5, 50, 6, 60);
        Disks.due(check, x, 4, 2, 2, 2, 7, 5);
        check.due("block(3)", x.block(3), 1);
    }

    private static void parted(Check check) {
        TwinRoots x = PutTest.rising(16, 7);
        removes(check, x, 1, 1);
        removes(check, x, 2, 3);
        Disks.due(check, x, 2, 1, 3, 3, 30, 4, 40, 5, 50);
        Disks.due(check, x, 3, 1, 2, 6, 60, 7, 70);
        Disks.due(check, x, 4, 2, 2, 2, 6, 3);
        TwinRoots y = PutTest.rising(16, 5);
        y.put(0, 5);
        removes(check, y, 5, 3);
        Disks.due(check, y, 2, 1, 3, 0, 5, 1, 10, 2, 20);
        Disks.due(check, y, 3, 1, 2, 3, 30, 4, 40);
        Disks.due(check, y, 4, 2, 2, 2, 3, 3);
    }

    private static void innerJoinedWithTheOneAhead(Check check) {
        TwinRoots x = PutTest.rising(16, 17);
        removes(check, x, 17, 2);
        Disks.due(check, x, 7, 1, 4, 13, 130, 14, 140, 15, 150, 16, 160);
        Disks.due(check, x, 4, 2, 5, 2, 4, 3, 7, 5, 10, 6, 13, 7);
        check.due("count(6)", x.count(6), 2);
        check.due("count(7)", x.count(7), 4);
        for (int b = 8; b <= 10; b++) {
            check.due("block(" + b + ")", x.block(b), 1);
        }
    }

    private static void innerJoinedWithTheOneBehind(Check check) {
        TwinRoots x = PutTest.rising(16, 17);
        removes(check, x, 1, 1);
        removes(check, x, 2, 2);
        Disks.due(check, x, 2, 1, 4, 3, 30, 4, 40, 5, 50, 6, 60);
        Disks.due(check, x, 4, 2, 5, 2, 7, 5, 10, 6, 13, 7, 16, 8);
        check.due("count(7)", x.count(7), 4);
        check.due("count(8)", x.count(8), 6);
        check.due("block(9)", x.block(9), 1);
    }

    private static void innerParted(Check check) {
        TwinRoots x = PutTest.rising(16, 17);
        x.put(0, 1);
        x.put(-1, 2);
        removes(check, x, 17, 4);
        Disks.due(check, x, 4, 2, 3, 2, 2, 11, 4, 3);
        Disks.due(check, x, 9, 2, 3, 5, 10, 6, 13, 7);
        Disks.due(check, x, 10, 2, 2, 4, 7, 9);
        for (int k = -1; k <= 16; k++) {
            check.due("contains(" + k + ")", x.contains(k), true);
        }
    }

    private static void lastKey(Check check) {
        TwinRoots x = PutTest.rising(8, 2);
        removes(check, x, 1, 1);
        removes(check, x, 2, 0);
        check.due("count(6)", x.count(6), 0);
        check.due("count(7)", x.count(7), 0);
        check.due("block(2)", x.block(2), 1);
        Disks.due(check, x, 2, 1, 1, 2, 20);
        check.due("commit()", x.commit(), TwinRoots.DONE);
        Disks.due(check, x, 1, Disks.MARK, 1, 0, 0);
    }

    private static void writesAnew(Check check) {
        TwinRoots x = PutTest.rising(24, 17);
        x.commit();
        removes(check, x, 15, 3);
        Disks.due(check, x, 11, 1, 2, 13, 130, 14, 140);
        Disks.due(check, x, 12, 2, 3, 6, 13, 11, 16, 8);
        Disks.due(check, x, 13, 2, 2, 4, 10, 12);
        removes(check, x, 16, 2);
        Disks.due(check, x, 11, 1, 3, 13, 130, 14, 140, 17, 170);
        Disks.due(check, x, 14, 2, 5, 2, 4, 3, 7, 5, 10, 6, 13, 11);
        check.due("count(7)", x.count(7), 14);
        check.due("block(4)", x.block(4), 4);
        check.due("block(8)", x.block(8), 4);
        check.due("block(12)", x.block(12), 1);
        check.due("block(13)", x.block(13), 1);
        check.due("was(16)", x.was(16), 160);
    }

    /** "(A KEY that is in no LEAF any more may stay.)": also where the NODE above is WRITTEN. */
    private static void keyMayStayAnew(Check check) {
        TwinRoots x = PutTest.rising(16, 6);
        x.commit();
        removes(check, x, 4, 2);
        Disks.due(check, x, 5, 1, 2, 5, 50, 6, 60);
        Disks.due(check, x, 6, 2, 2, 2, 4, 5);
        check.due("put(4, 1)", x.put(4, 1), TwinRoots.DONE);
        Disks.due(check, x, 5, 1, 3, 4, 1, 5, 50, 6, 60);
    }

    private static void partedAnew(Check check) {
        TwinRoots x = PutTest.rising(16, 7);
        x.commit();
        removes(check, x, 1, 2);
        Disks.due(check, x, 6, 2, 2, 5, 4, 3);
        removes(check, x, 2, 3);
        Disks.due(check, x, 5, 1, 3, 3, 30, 4, 40, 5, 50);
        Disks.due(check, x, 7, 1, 2, 6, 60, 7, 70);
        Disks.due(check, x, 6, 2, 2, 5, 6, 7);
        check.due("block(3)", x.block(3), 4);
    }

    /** "the one or both that a MENDING left, the left one first", and each takes the least BLOCK. */
    private static void leavesPartedAnew(Check check) {
        TwinRoots x = PutTest.rising(16, 7);
        x.remove(1);
        x.commit();
        removes(check, x, 2, 3);
        Disks.due(check, x, 5, 1, 3, 3, 30, 4, 40, 5, 50);
        Disks.due(check, x, 6, 1, 2, 6, 60, 7, 70);
        Disks.due(check, x, 7, 2, 2, 5, 6, 6);
        TwinRoots y = PutTest.rising(16, 5);
        y.put(0, 5);
        y.commit();
        removes(check, y, 5, 3);
        Disks.due(check, y, 5, 1, 3, 0, 5, 1, 10, 2, 20);
        Disks.due(check, y, 6, 1, 2, 3, 30, 4, 40);
        Disks.due(check, y, 7, 2, 2, 5, 3, 6);
    }

    private static void innersPartedAnew(Check check) {
        TwinRoots x = PutTest.rising(16, 17);
        x.put(0, 1);
        x.put(-1, 2);
        x.commit();
        removes(check, x, 17, 4);
        Disks.due(check, x, 12, 1, 4, 13, 130, 14, 140, 15, 150, 16, 160);
        Disks.due(check, x, 13, 2, 3, 2, 2, 11, 4, 3);
        Disks.due(check, x, 14, 2, 3, 5, 10, 6, 13, 12);
        Disks.due(check, x, 15, 2, 2, 13, 7, 14);
        TwinRoots y = PutTest.rising(24, 20);
        y.remove(1);
        y.commit();
        removes(check, y, 2, 4);
        Disks.due(check, y, 12, 1, 4, 3, 30, 4, 40, 5, 50, 6, 60);
        Disks.due(check, y, 13, 2, 3, 12, 7, 5, 10, 6);
        Disks.due(check, y, 14, 2, 3, 7, 16, 8, 19, 11);
        Disks.due(check, y, 15, 2, 2, 13, 13, 14);
    }

    /** LMOST is 5, LMIN 2, CMOST 6, CMIN 3. */
    private static void fourteenWords(Check check) {
        TwinRoots x = new TwinRoots(14, 32);
        x.format();
        for (int k = 1; k <= 21; k++) {
            x.put(k, k);
        }
        check.due("seven LEAVES, two above, one uppermost", x.count(8), 10);
        check.due("count(6)", x.count(6), 3);
        check.due("of seven the first four stay", x.word(4, 1), 4);
        removes(check, x, 21, 1);
        check.due("three children are enough", x.count(6), 3);
        check.due("count(8)", x.count(8), 10);
    }

    private static void noRoom(Check check) {
        TwinRoots x = new TwinRoots(12, 4);
        x.format();
        x.put(1, 1);
        x.commit();
        x.put(2, 2);
        x.commit();
        int writes = x.count(2);
        check.due("remove(1)", x.remove(1), TwinRoots.NOROOM);
        check.due("remove(3)", x.remove(3), TwinRoots.ABSENT);
        check.due("get(1)", x.get(1), 1);
        check.due("size()", x.size(), 2);
        check.due("no WRITE", x.count(2), writes);
        TwinRoots y = new TwinRoots(12, 4);
        y.format();
        y.put(1, 1);
        y.commit();
        y.put(1, 2);
        y.commit();
        check.due("count(5)", y.count(5), 0);
        removes(check, y, 1, 0);
        check.due("block(2)", y.block(2), 4);
        check.due("block(3)", y.block(3), 4);
    }

    private static void down(Check check) {
        TwinRoots x = PutTest.rising(8, 3);
        x.arm(0, 0);
        check.due("the cut one", x.remove(1), TwinRoots.DOWN);
        check.due("the next one", x.remove(1), TwinRoots.DOWN);
        check.due("one that is not there", x.remove(77), TwinRoots.DOWN);
    }

    /** A tree that recover() takes though its NODES are below LMIN and CMIN. */
    private static void underfullTree(Check check) {
        TwinRoots x = new TwinRoots(12, 16);
        Disks.layNew(x, 0, Disks.MARK, 5, 2, 4);
        Disks.layNew(x, 2, 2, 2, 3, 30, 4);
        Disks.layNew(x, 3, 2, 2, 5, 20, 6);
        Disks.layNew(x, 4, 2, 2, 7, 40, 8);
        for (int leaf = 0; leaf < 4; leaf++) {
            Disks.layNew(x, 5 + leaf, 1, 1, 10 + 10 * leaf, leaf);
        }
        check.due("recover()", x.recover(), TwinRoots.DONE);
        check.due("count(6)", x.count(6), 3);
        removes(check, x, 40, 2);
        Disks.due(check, x, 9, 1, 1, 30, 2);
        Disks.due(check, x, 10, 2, 3, 5, 20, 6, 30, 9);
        check.due("count(7)", x.count(7), 10);
        check.due("count(6)", x.count(6), 2);
    }

    /** INNER NODES below CMIN are MENDED though they have lost no child, and nothing below is new. */
    private static void underfullFreshPath(Check check) {
        TwinRoots x = new TwinRoots(12, 16);
        Disks.layNew(x, 0, Disks.MARK, 5, 2, 12);
        Disks.layNew(x, 2, 2, 2, 3, 30, 4);
        Disks.layNew(x, 3, 2, 2, 5, 20, 6);
        Disks.layNew(x, 4, 2, 2, 7, 40, 8);
        for (int leaf = 0; leaf < 4; leaf++) {
            int k = 10 + 10 * leaf;
            Disks.layNew(x, 5 + leaf, 1, 3, k, 1, k + 1, 2, k + 2, 3);
        }
        check.due("recover()", x.recover(), TwinRoots.DONE);
        check.due("put(10, 5)", x.put(10, 5), TwinRoots.DONE);
        check.due("LEAF 9, INNER 10, uppermost 11", x.count(7), 11);
        removes(check, x, 11, 2);
        Disks.due(check, x, 9, 1, 2, 10, 5, 12, 3);
        Disks.due(check, x, 10, 2, 4, 9, 20, 6, 30, 7, 40, 8);
        check.due("count(7)", x.count(7), 10);
        check.due("count(6)", x.count(6), 2);
    }
}
