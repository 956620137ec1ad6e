/** Promise 13: arm. */
final class ArmTest {
    public static void main(String[] args) {
        Check check = new Check("ArmTest");
        wordsThatCome(check);
        writesThatGoWell(check);
        withinOneCall(check);
        inPlaceOfAnother(check);
        onceOnly(check);
        staysArmed(check);
        check.end();
    }

    private static TwinRoots oneKey() {
        TwinRoots x = new TwinRoots(12, 8);
        x.format();
        x.put(5, 50);
        return x;
    }

    private static void wordsThatCome(Check check) {
        for (int t : new int[] {Integer.MIN_VALUE, -1, 0, 1, 2, 3, 4, 5, 6, 11, 12, 13, Integer.MAX_VALUE}) {
            TwinRoots x = oneKey();
            int oldSum = x.word(2, 11);
            int[] before = {1, 1, 5, 50, 0, 0};
            int[] after = {1, 2, 4, 40, 5, 50};
            x.arm(0, t);
            check.due("put with t " + t, x.put(4, 40), TwinRoots.DOWN);
            for (int w = 0; w < 6; w++) {
                check.due("word(2, " + w + ") with t " + t, x.word(2, w), w < t ? after[w] : before[w]);
            }
            check.due("the SUM is the old one with t " + t, x.word(2, 11) == oldSum, t < 12);
            check.due("the SUM is right with t " + t, Disks.sealed(x, 2), t <= 1 || t >= 12);
            check.due("it does not count", x.count(2), 3);
        }
    }

    private static void writesThatGoWell(Check check) {
        for (int n = 0; n < 6; n++) {
            TwinRoots x = oneKey();
            x.arm(n, 0);
            for (int i = 0; i < n; i++) {
                int answer = i % 2 == 0 ? x.put(i, i) : x.commit();
                check.due("WRITE " + i + " of " + n, answer, TwinRoots.DONE);
                check.due("what is not there", x.remove(1000), TwinRoots.ABSENT);
            }
            check.due("the next one", x.commit(), TwinRoots.DOWN);
            check.due("count(2)", x.count(2), 3 + n);
        }
    }

    private static void withinOneCall(Check check) {
        for (int n = 0; n < 5; n++) {
            TwinRoots x = PutTest.rising(16, 16);
            int writes = x.count(2);
            x.arm(n, 2);
            check.due("put(17, 170)", x.put(17, 170), TwinRoots.DOWN);
            check.due("count(2)", x.count(2), writes + n);
            check.due("word(7, 1)", x.word(7, 1), 3);
            check.due("word(8, 1)", x.word(8, 1), n >= 1 ? 2 : 0);
            check.due("word(8, 2)", x.word(8, 2), n >= 2 ? 16 : 0);
            check.due("word(4, 1)", x.word(4, 1), n >= 2 ? 3 : 5);
            check.due("word(9, 1)", x.word(9, 1), n >= 3 ? 3 : 0);
            check.due("word(10, 0)", x.word(10, 0), n >= 4 ? 2 : 0);
            check.due("word(10, 2)", x.word(10, 2), 0);
        }
        TwinRoots x = PutTest.rising(16, 16);
        x.arm(5, 2);
        check.due("five WRITES go well", x.put(17, 170), TwinRoots.DONE);
        check.due("the sixth does not", x.put(17, 170), TwinRoots.DOWN);
    }

    private static void inPlaceOfAnother(Check check) {
        TwinRoots x = oneKey();
        x.arm(0, 0);
        x.arm(1, 0);
        check.due("the later one counts", x.commit(), TwinRoots.DONE);
        x.arm(-1, 5);
        check.due("below 0 none is armed", x.commit(), TwinRoots.DONE);
        x.arm(0, 0);
        x.arm(Integer.MIN_VALUE, 0);
        check.due("nor with the least number", x.commit(), TwinRoots.DONE);
        x.arm(Integer.MAX_VALUE, 0);
        check.due("nor soon with the greatest", x.commit(), TwinRoots.DONE);
    }

    private static void onceOnly(Check check) {
        TwinRoots x = oneKey();
        x.commit();
        x.arm(0, 0);
        check.due("commit()", x.commit(), TwinRoots.DOWN);
        check.due("recover()", x.recover(), TwinRoots.DONE);
        check.due("commit()", x.commit(), TwinRoots.DONE);
        check.due("put(1, 1)", x.put(1, 1), TwinRoots.DONE);
    }

    private static void staysArmed(Check check) {
        TwinRoots x = oneKey();
        x.commit();
        x.arm(0, 12);
        check.due("recover() without a WRITE", x.recover(), TwinRoots.DONE);
        check.due("commit()", x.commit(), TwinRoots.DOWN);
        x.arm(1, 0);
        check.due("put while it is DOWN", x.put(1, 1), TwinRoots.DOWN);
        check.due("recover()", x.recover(), TwinRoots.DONE);
        check.due("commit()", x.commit(), TwinRoots.DONE);
        check.due("commit()", x.commit(), TwinRoots.DOWN);
    }
}
