/** Promise 18: count. */
final class CountTest {
    public static void main(String[] args) {
        Check check = new Check("CountTest");
        TwinRoots x = new TwinRoots(12, 20);
        due(check, x, 20, 12, 0, 1, -1, 0, 0, 0, 0, 0);
        x.format();
        due(check, x, 20, 12, 2, 0, 0, 18, 0, 0, 0, 0);
        for (int k = 1; k <= 17; k++) {
            x.put(k, k);
        }
        due(check, x, 20, 12, 31, 0, 0, 9, 3, 10, 9, 0);
        x.commit();
        due(check, x, 20, 12, 32, 0, 1, 9, 3, 10, 9, 17);
        x.put(18, 1);
        due(check, x, 20, 12, 35, 0, 1, 6, 3, 13, 9, 17);
        x.arm(1, 3);
        x.put(17, 1);
        check.due("commit()", x.commit(), TwinRoots.DOWN);
        due(check, x, 20, 12, 36, 1, -1, 0, 0, 0, 0, 0);
        x.recover();
        due(check, x, 20, 12, 37, 0, 1, 9, 3, 10, 9, 17);
        x.remove(17);
        x.commit();
        due(check, x, 20, 12, 40, 0, 2, 7, 2, 12, 6, 16);
        x.format();
        due(check, x, 20, 12, 42, 0, 0, 18, 0, 0, 0, 0);
        check.end();
    }

    private static void due(Check check, TwinRoots x, int... want) {
        for (int what = 0; what < want.length; what++) {
            check.due("count(" + what + ")", x.count(what), want[what]);
        }
        for (int what : new int[] {-1, 10, Integer.MIN_VALUE, Integer.MAX_VALUE}) {
            check.due("count(" + what + ")", x.count(what), 0);
        }
    }
}
