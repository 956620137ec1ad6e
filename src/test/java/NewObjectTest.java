/** Promise 1: a new object. */
final class NewObjectTest {
    public static void main(String[] args) {
        Check check = new Check("NewObjectTest");
        size(check, 12, 4, 12, 4);
        size(check, 40, 64, 40, 64);
        size(check, 23, 17, 23, 17);
        size(check, 11, 3, 12, 4);
        size(check, 41, 65, 40, 64);
        size(check, 0, 0, 12, 4);
        size(check, -5, -5, 12, 4);
        size(check, Integer.MIN_VALUE, Integer.MAX_VALUE, 12, 64);
        size(check, Integer.MAX_VALUE, Integer.MIN_VALUE, 40, 4);
        downAtFirst(check);
        check.end();
    }

    private static void size(Check check, int words, int blocks, int wantWords, int wantBlocks) {
        TwinRoots x = new TwinRoots(words, blocks);
        check.due("count(0)", x.count(0), wantBlocks);
        check.due("count(1)", x.count(1), wantWords);
        check.due("the last WORD", x.decay(wantBlocks - 1, wantWords - 1, 1), true);
        check.due("a BLOCK too far", x.decay(wantBlocks, 0, 1), false);
        check.due("a WORD too far", x.decay(0, wantWords, 1), false);
    }

    private static void downAtFirst(Check check) {
        TwinRoots x = new TwinRoots(12, 8);
        for (int b = 0; b < 8; b++) {
            for (int w = 0; w < 12; w++) {
                check.due("word(" + b + ", " + w + ")", x.word(b, w), 0);
            }
        }
        check.due("count(3)", x.count(3), 1);
        check.due("put", x.put(1, 1), TwinRoots.DOWN);
        check.due("remove", x.remove(1), TwinRoots.DOWN);
        check.due("commit", x.commit(), TwinRoots.DOWN);
        check.due("recover", x.recover(), TwinRoots.NOTHING);
        check.due("count(2)", x.count(2), 0);
    }
}
