/** Promise 12: commit. */
final class CommitTest {
    public static void main(String[] args) {
        Check check = new Check("CommitTest");
        rootsTakeTurns(check);
        nothingIsFresh(check);
        blocksComeFree(check);
        wordsThatAreNotTold(check);
        epochWraps(check);
        cut(check);
        down(check);
        check.end();
    }

    private static void rootsTakeTurns(Check check) {
        TwinRoots x = new TwinRoots(12, 16);
        x.format();
        check.due("an empty map", x.commit(), TwinRoots.DONE);
        Disks.due(check, x, 0, Disks.MARK);
        Disks.due(check, x, 1, Disks.MARK, 1);
        x.put(7, 70);
        x.put(8, 80);
        check.due("commit()", x.commit(), TwinRoots.DONE);
        Disks.due(check, x, 0, Disks.MARK, 2, 2, 2);
        Disks.due(check, x, 1, Disks.MARK, 1);
        check.due("nothing new", x.commit(), TwinRoots.DONE);
        Disks.due(check, x, 1, Disks.MARK, 3, 2, 2);
        check.due("count(2)", x.count(2), 7);
        check.due("count(4)", x.count(4), 3);
        check.due("count(9)", x.count(9), 2);
    }

    private static void nothingIsFresh(Check check) {
        TwinRoots x = PutTest.rising(16, 5);
        for (int b = 2; b <= 4; b++) {
            check.due("block(" + b + ")", x.block(b), 2);
        }
        x.commit();
        for (int b = 2; b <= 4; b++) {
            check.due("block(" + b + ")", x.block(b), 3);
        }
        check.due("was(5)", x.was(5), 50);
    }

    private static void blocksComeFree(Check check) {
        TwinRoots x = new TwinRoots(12, 8);
        x.format();
        x.put(1, 1);
        x.commit();
        x.put(1, 2);
        check.due("of ROOT 1", x.block(2), 4);
        x.commit();
        check.due("of ROOT 1 still", x.block(2), 4);
        check.due("of both", x.block(3), 3);
        x.commit();
        check.due("ROOT 1 was written anew", x.block(2), 1);
        x.put(1, 3);
        check.due("the FREE one with the least number", x.count(7), 2);
    }

    /** "Where a WORD isn't told it is 0", whatever was there. */
    private static void wordsThatAreNotTold(Check check) {
        TwinRoots x = PutTest.rising(12, 5);
        for (int w = 0; w < 12; w++) {
            for (int b = 1; b < 8; b++) {
                x.decay(b, w, -1 - b);
            }
        }
        check.due("commit()", x.commit(), TwinRoots.DONE);
        Disks.due(check, x, 1, Disks.MARK, 1, 4, 5);
        check.due("put(5, 1)", x.put(5, 1), TwinRoots.DONE);
        Disks.due(check, x, 5, 1, 2, 4, 40, 5, 1);
        Disks.due(check, x, 6, 2, 2, 2, 4, 5);
        check.due("word(7, 0)", x.word(7, 0), -8);
    }

    private static void epochWraps(Check check) {
        TwinRoots x = new TwinRoots(12, 8);
        Disks.lay(x, 0, Disks.MARK, Integer.MAX_VALUE);
        check.due("recover()", x.recover(), TwinRoots.DONE);
        check.due("count(4)", x.count(4), Integer.MAX_VALUE);
        x.commit();
        check.due("count(4)", x.count(4), Integer.MIN_VALUE);
        check.due("word(1, 1)", x.word(1, 1), Integer.MIN_VALUE);
    }

    private static void cut(Check check) {
        for (int t = 0; t <= 12; t++) {
            TwinRoots x = new TwinRoots(12, 8);
            x.format();
            x.put(1, 10);
            x.arm(0, t);
            check.due("commit()", x.commit(), TwinRoots.DOWN);
            check.due("count(3)", x.count(3), 1);
            check.due("count(2)", x.count(2), 3);
            check.due("recover()", x.recover(), TwinRoots.DONE);
            boolean whole = t == 12;
            check.due("count(4) with t " + t, x.count(4), whole ? 1 : 0);
            check.due("get(1) with t " + t, x.get(1), whole ? 10 : 0);
            check.due("block(2) with t " + t, x.block(2), whole ? 3 : 1);
            check.due("both ROOTS are sealed", Disks.sealed(x, 0) && Disks.sealed(x, 1), true);
        }
    }

    private static void down(Check check) {
        TwinRoots x = new TwinRoots(12, 8);
        check.due("commit()", x.commit(), TwinRoots.DOWN);
        check.due("word(0, 0)", x.word(0, 0), 0);
        check.due("word(1, 0)", x.word(1, 0), 0);
    }
}
