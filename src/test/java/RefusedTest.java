import java.util.function.Supplier;
import java.util.function.ToIntFunction;

/** The sentences of the document that tell of calls that are refused: what they answer, and leave. */
final class RefusedTest {
    private static final int[] ASKED = {1, 2, 5, 17, 99};

    public static void main(String[] args) {
        Check check = new Check("RefusedTest");
        downAtFirst(check);
        downBehindACut(check);
        downBehindNothing(check);
        downBehindACutRecovery(check);
        downUsesNoWrite(check);
        upAgain(check);
        absent(check);
        whatIsNoWrite(check);
        absentComesBeforeNoRoom(check);
        noRoom(check);
        nothing(check);
        cutPut(check);
        cutRemove(check);
        cutCommit(check);
        cutCommitOfALaterEpoch(check);
        cutRecovery(check);
        cutRecoveryThatCameWhole(check);
        recoveryUsesAWrite(check);
        formatIsNotCut(check);
        noCutBehindACut(check);
        check.end();
    }

    /** What each call answers when it is DOWN; none of them changes anything. */
    private static void isDown(Check check, String what, TwinRoots x) {
        State before = State.ofDisk(x);
        int writes = x.count(2);
        check.due(what + ": put", x.put(1, 1), TwinRoots.DOWN);
        check.due(what + ": remove", x.remove(1), TwinRoots.DOWN);
        check.due(what + ": remove of no key", x.remove(99), TwinRoots.DOWN);
        check.due(what + ": commit", x.commit(), TwinRoots.DOWN);
        check.due(what + ": get", x.get(1), 0);
        check.due(what + ": contains", x.contains(1), false);
        check.due(what + ": was", x.was(1), 0);
        check.due(what + ": size", x.size(), -1);
        check.due(what + ": rank", x.rank(5), -1);
        check.due(what + ": rank of the least", x.rank(Integer.MIN_VALUE), -1);
        check.due(what + ": key", x.key(0), 0);
        check.due(what + ": sum", x.sum(Integer.MIN_VALUE, Integer.MAX_VALUE), 0);
        for (int b = -1; b <= x.count(0); b++) {
            check.due(what + ": block(" + b + ")", x.block(b), -1);
        }
        int[] counts = {9, 12, writes, 1, -1, 0, 0, 0, 0, 0, 0};
        for (int i = 0; i < counts.length; i++) {
            check.due(what + ": count(" + i + ")", x.count(i), counts[i]);
        }
        State.ofDisk(x).sameAs(check, what, before);
    }

    /** "At first the disk is 0 all over, and it is DOWN." */
    private static void downAtFirst(Check check) {
        isDown(check, "at first", new TwinRoots(12, 9));
    }

    private static TwinRoots twoCommits() {
        TwinRoots x = PutTest.rising(9, 2);
        x.commit();
        x.put(1, 11);
        x.commit();
        return x;
    }

    private static void downBehindACut(Check check) {
        for (int t = 0; t <= 12; t += 6) {
            TwinRoots x = twoCommits();
            x.arm(0, t);
            check.due("the cut put", x.put(1, 12), TwinRoots.DOWN);
            isDown(check, "behind a cut put", x);
            TwinRoots y = twoCommits();
            y.arm(0, t);
            check.due("the cut remove", y.remove(1), TwinRoots.DOWN);
            isDown(check, "behind a cut remove", y);
            TwinRoots z = twoCommits();
            z.arm(0, t);
            check.due("the cut commit", z.commit(), TwinRoots.DOWN);
            isDown(check, "behind a cut commit", z);
        }
    }

    /** "Without a RIGHT ROOT it stays DOWN: NOTHING", "also when it is not DOWN". */
    private static void downBehindNothing(Check check) {
        TwinRoots x = twoCommits();
        x.decay(0, 3, 1);
        x.decay(1, 3, 1);
        check.due("it is up", x.get(1), 11);
        check.due("recover()", x.recover(), TwinRoots.NOTHING);
        isDown(check, "behind NOTHING", x);
        check.due("recover()", x.recover(), TwinRoots.NOTHING);
    }

    private static void downBehindACutRecovery(Check check) {
        TwinRoots x = twoCommits();
        x.decay(1, 3, 1);
        x.arm(0, 2);
        check.due("it is up", x.get(1), 11);
        check.due("recover()", x.recover(), TwinRoots.DOWN);
        isDown(check, "behind a cut recover()", x);
    }

    /** A call that is refused WRITES nothing, so that the cut that is armed stays where it was. */
    private static void downUsesNoWrite(Check check) {
        TwinRoots x = twoCommits();
        x.arm(0, 0);
        x.commit();
        x.arm(1, 0);
        for (int i = 0; i < 3; i++) {
            check.due("put", x.put(1, 1), TwinRoots.DOWN);
            check.due("remove", x.remove(1), TwinRoots.DOWN);
            check.due("commit", x.commit(), TwinRoots.DOWN);
        }
        check.due("recover()", x.recover(), TwinRoots.DONE);
        check.due("the one WRITE that goes well", x.commit(), TwinRoots.DONE);
        check.due("the next one", x.commit(), TwinRoots.DOWN);
    }

    private static void upAgain(Check check) {
        TwinRoots x = twoCommits();
        x.arm(0, 5);
        x.put(1, 12);
        check.due("recover()", x.recover(), TwinRoots.DONE);
        check.due("count(3)", x.count(3), 0);
        check.due("get(1)", x.get(1), 11);
        check.due("put(1, 13)", x.put(1, 13), TwinRoots.DONE);
        x.arm(0, 0);
        x.commit();
        x.format();
        check.due("count(3)", x.count(3), 0);
        check.due("put(1, 14)", x.put(1, 14), TwinRoots.DONE);
        check.due("get(1)", x.get(1), 14);
    }

    /** "A key that is not there: nothing changes." */
    private static void absent(Check check) {
        TwinRoots x = PutTest.rising(12, 6);
        x.commit();
        x.put(2, 1);
        x.remove(5);
        x.arm(0, 3);
        State before = State.of(x, ASKED);
        for (int k : new int[] {0, 5, 7, -1, Integer.MIN_VALUE, Integer.MAX_VALUE}) {
            check.due("remove(" + k + ")", x.remove(k), TwinRoots.ABSENT);
        }
        State.of(x, ASKED).sameAs(check, "ABSENT", before);
        check.due("the cut is still armed", x.commit(), TwinRoots.DOWN);
    }

    /** Of the n WRITES that go well none is used up by a call that WRITES nothing. */
    private static void whatIsNoWrite(Check check) {
        TwinRoots x = twoCommits();
        x.arm(1, 0);
        for (int i = 0; i < 3; i++) {
            check.due("remove(7)", x.remove(7), TwinRoots.ABSENT);
            check.due("decay", x.decay(8, 1, 5), true);
            check.due("decay of no WORD", x.decay(9, 1, 5), false);
            check.due("recover()", x.recover(), TwinRoots.DONE);
            check.due("get", x.get(1), 11);
            check.due("was", x.was(1), 11);
            check.due("word", x.word(3, 3), 11);
        }
        check.due("the one WRITE that goes well", x.put(1, 12), TwinRoots.DONE);
        check.due("the next one", x.put(1, 13), TwinRoots.DOWN);
    }

    private static void absentComesBeforeNoRoom(Check check) {
        TwinRoots x = PutTest.rising(5, 5);
        x.commit();
        check.due("count(5)", x.count(5), 0);
        check.due("remove(5)", x.remove(5), TwinRoots.NOROOM);
        check.due("remove(6)", x.remove(6), TwinRoots.ABSENT);
        check.due("remove(0)", x.remove(0), TwinRoots.ABSENT);
    }

    /** "it is NOROOM, and nothing changes (no WRITE, either)": a cut that is armed is not used up. */
    private static void noRoom(Check check) {
        TwinRoots x = PutTest.rising(6, 5);
        x.commit();
        check.due("one is FREE", x.count(5), 1);
        x.arm(1, 3);
        State before = State.of(x, ASKED);
        for (int i = 0; i < 3; i++) {
            check.due("put(1, 1)", x.put(1, 1), TwinRoots.NOROOM);
            check.due("put(99, 1)", x.put(99, 1), TwinRoots.NOROOM);
            check.due("put(1, 10), the same value", x.put(1, 10), TwinRoots.NOROOM);
            check.due("remove(1)", x.remove(1), TwinRoots.NOROOM);
        }
        State.of(x, ASKED).sameAs(check, "NOROOM", before);
        check.due("a remove with one BLOCK", x.remove(5), TwinRoots.DONE);
        check.due("is the WRITE that goes well", x.commit(), TwinRoots.DOWN);
    }

    /** NOTHING: nothing is WRITTEN, and the cut stays armed. */
    private static void nothing(Check check) {
        TwinRoots x = twoCommits();
        x.decay(0, 0, 1);
        x.decay(1, 0, 1);
        x.arm(0, 1);
        State before = State.ofDisk(x);
        check.due("recover()", x.recover(), TwinRoots.NOTHING);
        check.due("recover()", x.recover(), TwinRoots.NOTHING);
        State.ofDisk(x).sameAs(check, "NOTHING", before);
        x.decay(0, 0, 1);
        check.due("the cut is still armed", x.recover(), TwinRoots.DOWN);
        check.due("it was used up", x.recover(), TwinRoots.DONE);
        check.due("get(1)", x.get(1), 11);
    }

    /**
     * "n more WRITES (of whatever call) go well; of the next one the first t WORDS (at most all) come
     * to the disk, the others stay as they were; then it is DOWN, no cut is armed, and nothing else is
     * written by that call": against an object whose call is not cut, with the WRITES' BLOCKS in order.
     */
    private static void cut(Check check, String what, Supplier<TwinRoots> tree, ToIntFunction<TwinRoots> call,
            int... order) {
        TwinRoots whole = tree.get();
        int words = whole.count(1);
        int[][] after = new int[order.length][];
        check.due(what, call.applyAsInt(whole), TwinRoots.DONE);
        for (int i = 0; i < order.length; i++) {
            after[i] = Disks.wordsOf(whole, order[i]);
        }
        for (int n = 0; n < order.length; n++) {
            for (int t = 0; t <= words; t++) {
                TwinRoots x = tree.get();
                int[][] before = new int[order.length][];
                for (int i = 0; i < order.length; i++) {
                    before[i] = Disks.wordsOf(x, order[i]);
                }
                int writes = x.count(2);
                x.arm(n, t);
                String at = what + " cut by " + n + ", " + t;
                check.due(at, call.applyAsInt(x), TwinRoots.DOWN);
                check.due(at + ": count(2)", x.count(2), writes + n);
                for (int i = 0; i < order.length; i++) {
                    int came = i < n ? words : i == n ? t : 0;
                    came(check, at, Disks.wordsOf(x, order[i]), after[i], before[i], came);
                }
                comesBack(check, at, x, tree.get());
            }
        }
        TwinRoots x = tree.get();
        x.arm(order.length, 0);
        check.due(what + " ahead of the cut", call.applyAsInt(x), TwinRoots.DONE);
        check.due(what + ": the next WRITE", x.commit(), TwinRoots.DOWN);
    }

    private static void came(Check check, String what, int[] got, int[] after, int[] before, int many) {
        for (int w = 0; w < got.length; w++) {
            check.due(what + ": WORD " + w, got[w], w < many ? after[w] : before[w]);
        }
    }

    /** Behind a cut call recover() comes back to what was committed. */
    private static void comesBack(Check check, String what, TwinRoots x, TwinRoots committed) {
        check.due(what + ": recover()", x.recover(), TwinRoots.DONE);
        for (int i = 3; i < 10; i++) {
            check.due(what + ": count(" + i + ")", x.count(i), committed.count(i));
        }
        for (int k = -1; k <= 17; k++) {
            check.due(what + ": get(" + k + ")", x.get(k), committed.was(k));
        }
        check.due(what + ": no cut is armed", x.commit(), TwinRoots.DONE);
    }

    private static TwinRoots sixteen() {
        TwinRoots x = PutTest.rising(16, 16);
        x.commit();
        return x;
    }

    private static void cutPut(Check check) {
        cut(check, "put(17, 170)", RefusedTest::sixteen, x -> x.put(17, 170), 8, 9, 10, 11, 12);
        cut(check, "put(16, 1)", RefusedTest::sixteen, x -> x.put(16, 1), 8, 9);
        cut(check, "put into no NODE", () -> PutTest.rising(4, 0), x -> x.put(1, 1), 2);
    }

    private static TwinRoots nineteen() {
        TwinRoots x = PutTest.rising(16, 17);
        x.put(0, 1);
        x.put(-1, 2);
        x.commit();
        return x;
    }

    private static void cutRemove(Check check) {
        cut(check, "remove(17)", RefusedTest::nineteen, x -> x.remove(17), 12, 13, 14, 15);
        cut(check, "remove(10)", RefusedTest::nineteen, x -> x.remove(10), 12, 13, 14);
    }

    /** A ROOT that is cut: with all its WORDS it is RIGHT, and DOWN was answered all the same. */
    private static void cutCommit(Check check) {
        for (int t = 0; t <= 13; t++) {
            TwinRoots x = sixteen();
            x.put(16, 1);
            int writes = x.count(2);
            x.arm(0, t);
            check.due("commit()", x.commit(), TwinRoots.DOWN);
            check.due("count(2)", x.count(2), writes);
            int[] was = Disks.rowOf(12, Disks.MARK, 0);
            int[] is = Disks.rowOf(12, Disks.MARK, 2, 9, 16);
            came(check, "the cut ROOT with t " + t, Disks.wordsOf(x, 0), is, was, t);
            Disks.due(check, x, 1, Disks.MARK, 1, 4, 16);
            boolean cameWhole = t >= 12;
            check.due("recover()", x.recover(), TwinRoots.DONE);
            check.due("count(4) with t " + t, x.count(4), cameWhole ? 2 : 1);
            check.due("get(16) with t " + t, x.get(16), cameWhole ? 1 : 160);
            check.due("was(16) with t " + t, x.was(16), cameWhole ? 1 : 160);
            check.due("block(8) with t " + t, x.block(8), cameWhole ? 3 : 1);
            check.due("block(4) with t " + t, x.block(4), cameWhole ? 4 : 3);
            boolean mended = t > 1 && !cameWhole;
            check.due("count(2) with t " + t, x.count(2), writes + (mended ? 1 : 0));
        }
    }

    /** The EPOCH that a cut commit() would have written is not used up. */
    private static void cutCommitOfALaterEpoch(Check check) {
        TwinRoots x = twoCommits();
        for (int i = 0; i < 3; i++) {
            x.arm(0, 3);
            check.due("commit()", x.commit(), TwinRoots.DOWN);
            check.due("word(1, 1)", x.word(1, 1), 3);
            check.due("recover()", x.recover(), TwinRoots.DONE);
            check.due("count(4)", x.count(4), 2);
            check.due("word(1, 1)", x.word(1, 1), 2);
        }
        check.due("commit()", x.commit(), TwinRoots.DONE);
        check.due("count(4)", x.count(4), 3);
    }

    /** "(a WRITE; a cut may fall here: DOWN)" */
    private static void cutRecovery(Check check) {
        for (int t = 0; t < 12; t++) {
            TwinRoots x = twoCommits();
            x.decay(1, 3, 4);
            int[] before = Disks.wordsOf(x, 1);
            int[] taken = Disks.wordsOf(x, 0);
            int writes = x.count(2);
            x.arm(0, t);
            check.due("recover()", x.recover(), TwinRoots.DOWN);
            check.due("count(2)", x.count(2), writes);
            check.due("count(3)", x.count(3), 1);
            came(check, "the cut ROOT with t " + t, Disks.wordsOf(x, 1), taken, before, t);
            check.due("no cut is armed", x.recover(), TwinRoots.DONE);
            check.due("count(2)", x.count(2), writes + 1);
            check.due("get(1)", x.get(1), 11);
            Disks.due(check, x, 1, Disks.MARK, 2, 3, 2);
        }
    }

    /** With all its WORDS the cut ROOT is like the other: then ROOT 0 is taken, whichever it was. */
    private static void cutRecoveryThatCameWhole(Check check) {
        for (int bad = 0; bad < 2; bad++) {
            TwinRoots x = twoCommits();
            x.commit();
            check.due("both ROOTS tell the same NODES", x.word(0, 2), x.word(1, 2));
            x.decay(bad, 3, 4);
            int writes = x.count(2);
            x.arm(0, 12);
            check.due("recover()", x.recover(), TwinRoots.DOWN);
            check.due("count(2)", x.count(2), writes);
            check.due("recover()", x.recover(), TwinRoots.DONE);
            check.due("no WRITE", x.count(2), writes);
            int epoch = bad == 0 ? 3 : 2;
            check.due("count(4)", x.count(4), epoch);
            x.commit();
            check.due("ROOT 0 was the LATEST", x.word(0, 1), epoch);
            check.due("ROOT 1 is written", x.word(1, 1), epoch + 1);
        }
    }

    /** The WRITE of a recover() is one of the n that go well. */
    private static void recoveryUsesAWrite(Check check) {
        TwinRoots x = twoCommits();
        x.decay(1, 3, 4);
        x.arm(1, 3);
        check.due("recover() with a WRITE", x.recover(), TwinRoots.DONE);
        check.due("the cut is still armed", x.commit(), TwinRoots.DOWN);
        TwinRoots y = twoCommits();
        y.arm(1, 3);
        check.due("recover() without a WRITE", y.recover(), TwinRoots.DONE);
        check.due("commit()", y.commit(), TwinRoots.DONE);
        check.due("the cut is still armed", y.commit(), TwinRoots.DOWN);
    }

    /** "FORMAT. (Nothing is armed then.)" */
    private static void formatIsNotCut(Check check) {
        for (int n = 0; n < 4; n++) {
            TwinRoots x = twoCommits();
            int writes = x.count(2);
            x.arm(n, 1);
            x.format();
            check.due("it is up", x.count(3), 0);
            check.due("count(2)", x.count(2), writes + 2);
            Disks.due(check, x, 0, Disks.MARK);
            Disks.due(check, x, 1, Disks.MARK);
            for (int i = 0; i < 5; i++) {
                check.due("no cut is armed", x.commit(), TwinRoots.DONE);
            }
        }
    }

    /** "then it is DOWN, no cut is armed" */
    private static void noCutBehindACut(Check check) {
        TwinRoots x = twoCommits();
        x.arm(0, 0);
        check.due("put(1, 12)", x.put(1, 12), TwinRoots.DOWN);
        check.due("recover()", x.recover(), TwinRoots.DONE);
        for (int i = 0; i < 6; i++) {
            check.due("put", x.put(1, i), TwinRoots.DONE);
            check.due("commit()", x.commit(), TwinRoots.DONE);
        }
    }
}
