/** Promises 5 to 11: get, contains, was, size, rank, key, sum. */
final class LookupTest {
    public static void main(String[] args) {
        Check check = new Check("LookupTest");
        empty(check);
        ordinary(check);
        edges(check);
        sums(check);
        committedMap(check);
        down(check);
        diskIsNotRead(check);
        rightNodeIsNotRead(check);
        check.end();
    }

    private static void empty(Check check) {
        TwinRoots x = new TwinRoots(12, 8);
        x.format();
        check.due("get", x.get(0), 0);
        check.due("contains", x.contains(0), false);
        check.due("was", x.was(0), 0);
        check.due("size", x.size(), 0);
        check.due("rank", x.rank(Integer.MAX_VALUE), 0);
        check.due("key", x.key(0), 0);
        check.due("sum", x.sum(Integer.MIN_VALUE, Integer.MAX_VALUE), 0);
    }

    private static void ordinary(Check check) {
        TwinRoots x = new TwinRoots(12, 64);
        x.format();
        for (int i = 0; i < 60; i++) {
            int k = i * 37 % 60 * 2;
            check.due("put", x.put(k, k + 1000), TwinRoots.DONE);
        }
        check.due("size()", x.size(), 60);
        for (int i = 0; i < 60; i++) {
            check.due("get", x.get(2 * i), 2 * i + 1000);
            check.due("contains", x.contains(2 * i), true);
            check.due("get between", x.get(2 * i + 1), 0);
            check.due("contains between", x.contains(2 * i + 1), false);
            check.due("rank", x.rank(2 * i), i);
            check.due("rank between", x.rank(2 * i + 1), i + 1);
            check.due("key", x.key(i), 2 * i);
        }
        check.due("key(60)", x.key(60), 0);
        check.due("key(-1)", x.key(-1), 0);
        check.due("key(MIN)", x.key(Integer.MIN_VALUE), 0);
        check.due("key(MAX)", x.key(Integer.MAX_VALUE), 0);
    }

    private static void edges(Check check) {
        TwinRoots x = new TwinRoots(12, 16);
        x.format();
        x.put(Integer.MIN_VALUE, 3);
        x.put(Integer.MAX_VALUE, 4);
        x.put(0, 0);
        check.due("get(MIN)", x.get(Integer.MIN_VALUE), 3);
        check.due("get(MAX)", x.get(Integer.MAX_VALUE), 4);
        check.due("a value of 0", x.get(0), 0);
        check.due("contains(0)", x.contains(0), true);
        check.due("rank(MIN)", x.rank(Integer.MIN_VALUE), 0);
        check.due("rank(MAX)", x.rank(Integer.MAX_VALUE), 2);
        check.due("key(0)", x.key(0), Integer.MIN_VALUE);
        check.due("key(2)", x.key(2), Integer.MAX_VALUE);
    }

    private static void sums(Check check) {
        TwinRoots x = new TwinRoots(12, 32);
        x.format();
        for (int k = -10; k <= 10; k++) {
            x.put(k, k * k);
        }
        check.due("sum(-10, 10)", x.sum(-10, 10), 770);
        check.due("sum(2, 4)", x.sum(2, 4), 29);
        check.due("sum(4, 4)", x.sum(4, 4), 16);
        check.due("sum(4, 3)", x.sum(4, 3), 0);
        check.due("sum(11, 99)", x.sum(11, 99), 0);
        check.due("sum(MIN, MAX)", x.sum(Integer.MIN_VALUE, Integer.MAX_VALUE), 770);
        check.due("sum(MAX, MIN)", x.sum(Integer.MAX_VALUE, Integer.MIN_VALUE), 0);
        x.put(Integer.MAX_VALUE, Integer.MAX_VALUE);
        x.put(Integer.MIN_VALUE, 5);
        check.due("it wraps", x.sum(10, Integer.MAX_VALUE), Integer.MAX_VALUE + 100);
        check.due("the least key counts", x.sum(Integer.MIN_VALUE, -10), 105);
    }

    private static void committedMap(Check check) {
        TwinRoots x = PutTest.rising(32, 12);
        check.due("before the commit", x.was(7), 0);
        x.commit();
        x.put(7, 1);
        x.remove(8);
        x.put(99, 1);
        check.due("was(7)", x.was(7), 70);
        check.due("was(8)", x.was(8), 80);
        check.due("was(99)", x.was(99), 0);
        check.due("get(7)", x.get(7), 1);
        check.due("get(8)", x.get(8), 0);
        check.due("get(99)", x.get(99), 1);
        for (int k = 1; k <= 12; k++) {
            x.remove(k);
        }
        check.due("was(1)", x.was(1), 10);
        x.commit();
        check.due("was(1)", x.was(1), 0);
        check.due("was(99)", x.was(99), 1);
    }

    private static void down(Check check) {
        TwinRoots x = PutTest.rising(16, 9);
        x.commit();
        x.arm(0, 0);
        x.commit();
        check.due("get", x.get(1), 0);
        check.due("contains", x.contains(1), false);
        check.due("was", x.was(1), 0);
        check.due("size", x.size(), -1);
        check.due("rank", x.rank(5), -1);
        check.due("key", x.key(0), 0);
        check.due("sum", x.sum(1, 9), 0);
    }

    private static void diskIsNotRead(Check check) {
        TwinRoots x = PutTest.rising(16, 9);
        x.commit();
        for (int b = 0; b < 16; b++) {
            for (int w = 0; w < 12; w++) {
                x.decay(b, w, -1);
            }
        }
        check.due("get(5)", x.get(5), 50);
        check.due("was(5)", x.was(5), 50);
        check.due("key(8)", x.key(8), 9);
        check.due("sum(1, 9)", x.sum(1, 9), 450);
        check.due("count(4)", x.count(4), 1);
        check.due("put(5, 1)", x.put(5, 1), TwinRoots.DONE);
    }

    /** "The disk is read by recover() alone": also where it tells another value with the right SUM. */
    private static void rightNodeIsNotRead(Check check) {
        for (int keys = 3; keys <= 6; keys += 3) {
            TwinRoots x = PutTest.rising(12, keys);
            x.commit();
            Disks.poke(x, 2, 3, 77);
            check.due("get(1)", x.get(1), 10);
            check.due("was(1)", x.was(1), 10);
            check.due("sum(1, 1)", x.sum(1, 1), 10);
            Disks.poke(x, 2, 2, 0);
            check.due("contains(0)", x.contains(0), false);
            check.due("rank(1)", x.rank(1), 0);
            check.due("key(0)", x.key(0), 1);
            check.due("remove(0)", x.remove(0), TwinRoots.ABSENT);
            check.due("put(2, 5)", x.put(2, 5), TwinRoots.DONE);
            Disks.due(check, x, keys == 3 ? 3 : 5, 1, 3, 1, 10, 2, 5, 3, 30);
            check.due("recover()", x.recover(), TwinRoots.DONE);
            check.due("get(0)", x.get(0), 77);
            check.due("contains(1)", x.contains(1), false);
            check.due("was(0)", x.was(0), 77);
        }
    }
}
