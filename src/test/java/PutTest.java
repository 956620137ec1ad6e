/** Promise 3: put. With 12 WORDS LMOST is 4 and CMOST 5. */
final class PutTest {
    public static void main(String[] args) {
        Check check = new Check("PutTest");
        oneLeaf(check);
        leafBecomesTwo(check);
        innerBecomesTwo(check);
        valueOfZero(check);
        writesAnew(check);
        leafBecomesTwoAnew(check);
        innerBecomesTwoAnew(check);
        uppermostBecomesTwoAnew(check);
        noRoom(check);
        noRoomWithinAPut(check);
        down(check);
        largestBlocks(check);
        check.end();
    }

    static TwinRoots rising(int blocks, int keys) {
        TwinRoots x = new TwinRoots(12, blocks);
        x.format();
        for (int k = 1; k <= keys; k++) {
            x.put(k, 10 * k);
        }
        return x;
    }

    private static void oneLeaf(Check check) {
        TwinRoots x = new TwinRoots(12, 8);
        x.format();
        check.due("put(5, 50)", x.put(5, 50), TwinRoots.DONE);
        Disks.due(check, x, 2, 1, 1, 5, 50);
        x.put(Integer.MAX_VALUE, -1);
        x.put(Integer.MIN_VALUE, 7);
        x.put(0, Integer.MIN_VALUE);
        Disks.due(check, x, 2, 1, 4, Integer.MIN_VALUE, 7, 0, Integer.MIN_VALUE, 5, 50, Integer.MAX_VALUE, -1);
        int writes = x.count(2);
        check.due("the same value", x.put(5, 50), TwinRoots.DONE);
        check.due("is WRITTEN, too", x.count(2), writes + 1);
        x.put(5, 51);
        check.due("get(5)", x.get(5), 51);
        check.due("size()", x.size(), 4);
        check.due("nothing else is taken", x.count(5), 5);
    }

    private static void leafBecomesTwo(Check check) {
        TwinRoots x = rising(16, 4);
        int writes = x.count(2);
        check.due("put(5, 50)", x.put(5, 50), TwinRoots.DONE);
        check.due("WRITES", x.count(2), writes + 3);
        Disks.due(check, x, 2, 1, 3, 1, 10, 2, 20, 3, 30);
        Disks.due(check, x, 3, 1, 2, 4, 40, 5, 50);
        Disks.due(check, x, 4, 2, 2, 2, 4, 3);
        x.put(0, 1);
        check.due("a FRESH LEAF alone is WRITTEN", x.count(2), writes + 4);
        x.put(-1, 2);
        check.due("the LEAF, the new one, their parent", x.count(2), writes + 7);
        Disks.due(check, x, 2, 1, 3, -1, 2, 0, 1, 1, 10);
        Disks.due(check, x, 5, 1, 2, 2, 20, 3, 30);
        Disks.due(check, x, 4, 2, 3, 2, 2, 5, 4, 3);
    }

    private static void innerBecomesTwo(Check check) {
        TwinRoots x = rising(16, 16);
        check.due("count(6)", x.count(6), 2);
        int writes = x.count(2);
        x.put(17, 170);
        check.due("WRITES", x.count(2), writes + 5);
        check.due("count(6)", x.count(6), 3);
        check.due("count(7)", x.count(7), 10);
        Disks.due(check, x, 7, 1, 3, 13, 130, 14, 140, 15, 150);
        Disks.due(check, x, 8, 1, 2, 16, 160, 17, 170);
        Disks.due(check, x, 4, 2, 3, 2, 4, 3, 7, 5);
        Disks.due(check, x, 9, 2, 3, 6, 13, 7, 16, 8);
        Disks.due(check, x, 10, 2, 2, 4, 10, 9);
    }

    /** "the value in place of the one there": 0 is a value as others are. */
    private static void valueOfZero(Check check) {
        TwinRoots x = rising(8, 2);
        check.due("put(1, 0)", x.put(1, 0), TwinRoots.DONE);
        Disks.due(check, x, 2, 1, 2, 1, 0, 2, 20);
        check.due("get(1)", x.get(1), 0);
        check.due("contains(1)", x.contains(1), true);
        check.due("size()", x.size(), 2);
        check.due("put(0, 0)", x.put(0, 0), TwinRoots.DONE);
        Disks.due(check, x, 2, 1, 3, 0, 0, 1, 0, 2, 20);
        check.due("size()", x.size(), 3);
    }

    private static void writesAnew(Check check) {
        TwinRoots x = rising(24, 17);
        x.commit();
        int writes = x.count(2);
        x.put(17, 1);
        check.due("LEAF, parent, uppermost", x.count(2), writes + 3);
        Disks.due(check, x, 11, 1, 2, 16, 160, 17, 1);
        Disks.due(check, x, 12, 2, 3, 6, 13, 7, 16, 11);
        Disks.due(check, x, 13, 2, 2, 4, 10, 12);
        Disks.due(check, x, 8, 1, 2, 16, 160, 17, 170);
        check.due("count(7)", x.count(7), 13);
        x.put(16, 2);
        check.due("the FRESH LEAF alone", x.count(2), writes + 4);
        x.put(1, 3);
        check.due("LEAF, parent, FRESH uppermost", x.count(2), writes + 7);
        Disks.due(check, x, 14, 1, 3, 1, 3, 2, 20, 3, 30);
        Disks.due(check, x, 15, 2, 3, 14, 4, 3, 7, 5);
        Disks.due(check, x, 13, 2, 2, 15, 10, 12);
        check.due("was(1)", x.was(1), 10);
        check.due("get(1)", x.get(1), 3);
    }

    /** "of two the one that stays is WRITTEN first; then their parent", and each takes the least BLOCK. */
    private static void leafBecomesTwoAnew(Check check) {
        TwinRoots x = rising(16, 7);
        x.commit();
        int writes = x.count(2);
        check.due("put(8, 80)", x.put(8, 80), TwinRoots.DONE);
        check.due("WRITES", x.count(2), writes + 3);
        Disks.due(check, x, 5, 1, 3, 4, 40, 5, 50, 6, 60);
        Disks.due(check, x, 6, 1, 2, 7, 70, 8, 80);
        Disks.due(check, x, 7, 2, 3, 2, 4, 5, 7, 6);
        check.due("count(7)", x.count(7), 7);
    }

    private static void innerBecomesTwoAnew(Check check) {
        TwinRoots x = rising(24, 25);
        check.due("three deep", x.count(6), 3);
        check.due("the right INNER is full", x.word(9, 1), 5);
        x.commit();
        int writes = x.count(2);
        check.due("put(26, 260)", x.put(26, 260), TwinRoots.DONE);
        check.due("WRITES", x.count(2), writes + 5);
        Disks.due(check, x, 13, 1, 3, 22, 220, 23, 230, 24, 240);
        Disks.due(check, x, 14, 1, 2, 25, 250, 26, 260);
        Disks.due(check, x, 15, 2, 3, 6, 13, 7, 16, 8);
        Disks.due(check, x, 16, 2, 3, 11, 22, 13, 25, 14);
        Disks.due(check, x, 17, 2, 3, 4, 10, 15, 19, 16);
        check.due("count(6)", x.count(6), 3);
    }

    private static void uppermostBecomesTwoAnew(Check check) {
        TwinRoots x = rising(16, 16);
        x.commit();
        int writes = x.count(2);
        check.due("put(17, 170)", x.put(17, 170), TwinRoots.DONE);
        check.due("WRITES", x.count(2), writes + 5);
        Disks.due(check, x, 8, 1, 3, 13, 130, 14, 140, 15, 150);
        Disks.due(check, x, 9, 1, 2, 16, 160, 17, 170);
        Disks.due(check, x, 10, 2, 3, 2, 4, 3, 7, 5);
        Disks.due(check, x, 11, 2, 3, 6, 13, 8, 16, 9);
        Disks.due(check, x, 12, 2, 2, 10, 10, 11);
        TwinRoots y = rising(16, 4);
        y.commit();
        y.put(5, 50);
        Disks.due(check, y, 3, 1, 3, 1, 10, 2, 20, 3, 30);
        Disks.due(check, y, 4, 1, 2, 4, 40, 5, 50);
        Disks.due(check, y, 5, 2, 2, 3, 4, 4);
    }

    private static void noRoom(Check check) {
        TwinRoots x = new TwinRoots(12, 4);
        x.format();
        x.put(1, 1);
        x.commit();
        x.put(1, 2);
        x.commit();
        int writes = x.count(2);
        x.arm(0, 5);
        check.due("put(1, 3)", x.put(1, 3), TwinRoots.NOROOM);
        check.due("put(2, 3)", x.put(2, 3), TwinRoots.NOROOM);
        check.due("get(1)", x.get(1), 2);
        check.due("size()", x.size(), 1);
        check.due("no WRITE", x.count(2), writes);
        check.due("it is up", x.count(3), 0);
        check.due("the cut is still armed", x.commit(), TwinRoots.DOWN);
    }

    private static void noRoomWithinAPut(Check check) {
        TwinRoots x = rising(5, 4);
        check.due("count(5)", x.count(5), 2);
        check.due("two are enough for two", x.put(5, 50), TwinRoots.DONE);
        check.due("count(5)", x.count(5), 0);
        check.due("a FRESH LEAF needs none", x.put(0, 5), TwinRoots.DONE);
        check.due("a new one does", x.put(-1, 5), TwinRoots.NOROOM);
        Disks.due(check, x, 2, 1, 4, 0, 5, 1, 10, 2, 20, 3, 30);
        check.due("contains(-1)", x.contains(-1), false);
        check.due("size()", x.size(), 6);
        check.due("a value needs none", x.put(0, 6), TwinRoots.DONE);
        TwinRoots y = rising(4, 4);
        check.due("one for a new LEAF, none for the uppermost", y.put(5, 50), TwinRoots.NOROOM);
        check.due("block(3)", y.block(3), 1);
        check.due("count(6)", y.count(6), 1);
    }

    private static void down(Check check) {
        TwinRoots x = rising(8, 3);
        x.arm(0, 3);
        check.due("the cut one", x.put(9, 9), TwinRoots.DOWN);
        check.due("the next one", x.put(9, 9), TwinRoots.DOWN);
        check.due("word(2, 1)", x.word(2, 1), 4);
        check.due("contains(9)", x.contains(9), false);
    }

    private static void largestBlocks(Check check) {
        TwinRoots x = new TwinRoots(40, 64);
        x.format();
        for (int k = 0; k < 18; k++) {
            x.put(k, k);
        }
        check.due("18 keys in one LEAF", x.count(8), 1);
        x.put(18, 18);
        check.due("19 in two", x.count(8), 3);
        check.due("word(2, 1)", x.word(2, 1), 10);
        check.due("word(3, 1)", x.word(3, 1), 9);
        TwinRoots y = new TwinRoots(13, 64);
        y.format();
        for (int k = 0; k < 6; k++) {
            y.put(k, k);
        }
        check.due("of 13 WORDS, five keys at most", y.word(2, 1), 3);
        check.due("word(3, 1)", y.word(3, 1), 3);
    }
}
