/** Promise 17: block. */
final class BlockTest {
    public static void main(String[] args) {
        Check check = new Check("BlockTest");
        TwinRoots x = new TwinRoots(12, 9);
        due(check, x, -1, -1, -1, -1, -1, -1, -1, -1, -1);
        x.format();
        due(check, x, 0, 0, 1, 1, 1, 1, 1, 1, 1);
        for (int k = 1; k <= 5; k++) {
            x.put(k, k);
        }
        due(check, x, 0, 0, 2, 2, 2, 1, 1, 1, 1);
        x.commit();
        due(check, x, 0, 0, 3, 3, 3, 1, 1, 1, 1);
        x.put(5, 6);
        due(check, x, 0, 0, 3, 4, 4, 2, 2, 1, 1);
        x.commit();
        due(check, x, 0, 0, 3, 4, 4, 3, 3, 1, 1);
        x.remove(1);
        due(check, x, 0, 0, 4, 4, 4, 3, 4, 2, 2);
        x.recover();
        due(check, x, 0, 0, 3, 4, 4, 3, 3, 1, 1);
        x.commit();
        due(check, x, 0, 0, 3, 1, 1, 3, 3, 1, 1);
        for (int k = 1; k <= 5; k++) {
            x.remove(k);
        }
        due(check, x, 0, 0, 4, 1, 1, 4, 4, 1, 1);
        x.commit();
        x.commit();
        due(check, x, 0, 0, 1, 1, 1, 1, 1, 1, 1);
        for (int b : new int[] {-1, 9, 64, Integer.MIN_VALUE, Integer.MAX_VALUE}) {
            check.due("block(" + b + ")", x.block(b), -1);
        }
        x.arm(0, 0);
        x.commit();
        due(check, x, -1, -1, -1, -1, -1, -1, -1, -1, -1);
        TwinRoots y = new TwinRoots(12, 64);
        y.format();
        check.due("block(63)", y.block(63), 1);
        check.due("block(64)", y.block(64), -1);
        check.end();
    }

    private static void due(Check check, TwinRoots x, int... want) {
        for (int b = 0; b < want.length; b++) {
            check.due("block(" + b + ")", x.block(b), want[b]);
        }
    }
}
