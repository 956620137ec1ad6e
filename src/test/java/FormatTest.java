/** Promise 2: format. */
final class FormatTest {
    public static void main(String[] args) {
        Check check = new Check("FormatTest");
        fromNew(check);
        fromUse(check);
        nothingIsArmed(check);
        wordsThatAreNotTold(check);
        check.end();
    }

    private static void empty(Check check, TwinRoots x) {
        Disks.due(check, x, 0, Disks.MARK);
        Disks.due(check, x, 1, Disks.MARK);
        int[] want = {8, 12, -99, 0, 0, 6, 0, 0, 0, 0};
        for (int what = 0; what < 10; what++) {
            if (what != 2) {
                check.due("count(" + what + ")", x.count(what), want[what]);
            }
        }
        check.due("size()", x.size(), 0);
        check.due("get(1)", x.get(1), 0);
        check.due("was(1)", x.was(1), 0);
        for (int b = 0; b < 8; b++) {
            check.due("block(" + b + ")", x.block(b), b < 2 ? 0 : 1);
        }
    }

    private static void fromNew(Check check) {
        TwinRoots x = new TwinRoots(12, 8);
        x.format();
        empty(check, x);
        check.due("count(2)", x.count(2), 2);
        check.due("commit() writes ROOT 1", x.commit(), TwinRoots.DONE);
        check.due("word(0, 1)", x.word(0, 1), 0);
        check.due("word(1, 1)", x.word(1, 1), 1);
        check.due("count(4)", x.count(4), 1);
    }

    private static void fromUse(Check check) {
        TwinRoots x = new TwinRoots(12, 8);
        x.format();
        for (int commits = 0; commits < 3; commits++) {
            x.put(1, 10 + commits);
            x.commit();
        }
        x.put(1, 99);
        int leaf = x.count(7);
        x.format();
        empty(check, x);
        check.due("WRITES go on being counted", x.count(2), 2 + 6 + 1 + 2);
        Disks.due(check, x, leaf, 1, 1, 1, 99);
        check.due("recover()", x.recover(), TwinRoots.DONE);
        check.due("size()", x.size(), 0);
        check.due("commit()", x.commit(), TwinRoots.DONE);
        check.due("ROOT 0 was the LATEST", x.word(1, 1), 1);
    }

    private static void nothingIsArmed(Check check) {
        for (int n = 0; n < 3; n++) {
            TwinRoots x = new TwinRoots(12, 8);
            x.arm(n, 1);
            x.format();
            empty(check, x);
            check.due("put", x.put(1, 1), TwinRoots.DONE);
            check.due("commit", x.commit(), TwinRoots.DONE);
        }
    }

    /** "Where a WORD isn't told it is 0", whatever was there; no other BLOCK is written. */
    private static void wordsThatAreNotTold(Check check) {
        TwinRoots x = new TwinRoots(12, 8);
        for (int b = 0; b < 8; b++) {
            for (int w = 0; w < 12; w++) {
                x.decay(b, w, -1 - b);
            }
        }
        x.format();
        empty(check, x);
        for (int b = 2; b < 8; b++) {
            for (int w = 0; w < 12; w++) {
                check.due("word(" + b + ", " + w + ")", x.word(b, w), -1 - b);
            }
        }
    }
}
