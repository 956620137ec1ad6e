/** Promises 15 and 16: decay, word. */
final class DiskTest {
    private static final int[] FAR = {-1, Integer.MIN_VALUE, Integer.MAX_VALUE};

    public static void main(String[] args) {
        Check check = new Check("DiskTest");
        for (int step = 0; step < 16; step++) {
            turned(check, new TwinRoots(40, 64), 40, 64, 4 * step, 4 * step + 4);
        }
        turned(check, new TwinRoots(12, 4), 12, 4, 0, 4);
        TwinRoots up = new TwinRoots(13, 5);
        up.format();
        turned(check, up, 13, 5, 0, 5);
        noWrite(check);
        check.end();
    }

    private static void turned(Check check, TwinRoots x, int words, int blocks, int from, int to) {
        for (int b = from; b < to; b++) {
            for (int w = 0; w < words; w += words - 1) {
                oneTurned(check, x, b, w, w == 0 ? 1 : words - 2);
            }
            check.due("decay past the WORDS", x.decay(b, words, 1), false);
            check.due("word past the WORDS", x.word(b, words), 0);
        }
        check.due("decay past the BLOCKS", x.decay(blocks, 0, 1), false);
        check.due("word past the BLOCKS", x.word(blocks, 0), 0);
        x.decay(0, 0, 7);
        x.decay(blocks - 1, words - 1, 7);
        for (int far : FAR) {
            check.due("decay of BLOCK " + far, x.decay(far, 0, 1), false);
            check.due("decay of WORD " + far, x.decay(0, far, 1), false);
            check.due("word of BLOCK " + far, x.word(far, words - 1), 0);
            check.due("word of WORD " + far, x.word(blocks - 1, far), 0);
        }
    }

    private static void oneTurned(Check check, TwinRoots x, int b, int w, int beside) {
        int before = x.word(b, w);
        int neighbour = x.word(b, beside);
        check.due("decay", x.decay(b, w, 0x80000005), true);
        check.due("word", x.word(b, w), before ^ 0x80000005);
        check.due("its neighbour", x.word(b, beside), neighbour);
        check.due("decay", x.decay(b, w, 4), true);
        check.due("word", x.word(b, w), before ^ 0x80000001);
        check.due("decay by 0", x.decay(b, w, 0), true);
        check.due("word", x.word(b, w), before ^ 0x80000001);
        x.decay(b, w, 0x80000001);
        check.due("turned back", x.word(b, w), before);
    }

    private static void noWrite(Check check) {
        TwinRoots x = PutTest.rising(8, 2);
        int writes = x.count(2);
        x.arm(0, 0);
        check.due("decay", x.decay(2, 3, 6), true);
        check.due("word", x.word(2, 3), 10 ^ 6);
        check.due("count(2)", x.count(2), writes);
        check.due("it is up", x.count(3), 0);
        check.due("get(1)", x.get(1), 10);
        check.due("the cut is still armed", x.put(1, 1), TwinRoots.DOWN);
        check.due("decay while it is DOWN", x.decay(2, 3, 6), true);
        check.due("word while it is DOWN", x.word(2, 3), 10);
    }
}
