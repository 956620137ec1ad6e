import java.util.ArrayList;
import java.util.HashSet;
import java.util.List;
import java.util.Set;
import java.util.TreeMap;
import java.util.TreeSet;

/**
 * A second program of the same document, in another way, to compare with: a tree of objects that is
 * copied whole for each change and then compared with the old one to find what is WRITTEN, and
 * sorted maps beside it for what is looked up.
 */
final class Model {
    static final int DONE = 0;
    static final int ABSENT = 1;
    static final int NOROOM = 2;
    static final int DOWN = 3;
    static final int NOTHING = 4;

    private static final class Node {
        boolean leaf;
        int block;
        boolean fresh;
        Node old;
        boolean touched;
        final List<Integer> keys = new ArrayList<>();
        final List<Integer> values = new ArrayList<>();
        final List<Node> kids = new ArrayList<>();

        Node(boolean leaf) {
            this.leaf = leaf;
        }

        Node cloned() {
            Node c = new Node(leaf);
            c.old = this;
            c.block = block;
            c.fresh = fresh;
            c.keys.addAll(keys);
            c.values.addAll(values);
            for (Node kid : kids) {
                c.kids.add(kid.cloned());
            }
            return c;
        }

        int kidFor(int k) {
            int i = kids.size() - 1;
            while (i > 0 && k < keys.get(i - 1)) {
                i--;
            }
            return i;
        }

        void blocksTo(Set<Integer> all) {
            all.add(block);
            for (Node kid : kids) {
                kid.blocksTo(all);
            }
        }

        int height() {
            return leaf ? 1 : 1 + kids.get(0).height();
        }

        void level(int height, List<Node> to) {
            if (height() == height) {
                to.add(this);
            } else {
                for (Node kid : kids) {
                    kid.level(height, to);
                }
            }
        }

        void settle() {
            old = null;
            touched = false;
            for (Node kid : kids) {
                kid.settle();
            }
        }

        void stale() {
            fresh = false;
            for (Node kid : kids) {
                kid.stale();
            }
        }

        void mapTo(TreeMap<Integer, Integer> map) {
            for (int i = 0; leaf && i < keys.size(); i++) {
                map.put(keys.get(i), values.get(i));
            }
            for (Node kid : kids) {
                kid.mapTo(map);
            }
        }
    }

    /** What a ROOT of those that count tells. */
    private static final class Root {
        int epoch;
        final Set<Integer> reached = new TreeSet<>();
        Node top;
    }

    final int words;
    final int blocks;
    private final int[][] disk;
    private final int lmost;
    private final int cmost;
    private final int lmin;
    private final int cmin;
    private int writes;
    private int armedWrites = -1;
    private int armedWords;
    private boolean down = true;
    private final Root[] roots = {new Root(), new Root()};
    private int latest;
    private Node top;
    private TreeMap<Integer, Integer> working = new TreeMap<>();
    private TreeMap<Integer, Integer> committed = new TreeMap<>();

    Model(int w, int b) {
        words = w < 12 ? 12 : w > 40 ? 40 : w;
        blocks = b < 4 ? 4 : b > 64 ? 64 : b;
        disk = new int[blocks][words];
        lmost = (words - 3) / 2;
        cmost = (words - 2) / 2;
        lmin = lmost / 2;
        cmin = (cmost + 1) / 2;
    }

    void format() {
        armedWrites = -1;
        for (int r = 0; r < 2; r++) {
            write(r, rootWords(0, 0, 0));
            roots[r].epoch = 0;
            roots[r].reached.clear();
        }
        latest = 0;
        top = null;
        working.clear();
        committed.clear();
        down = false;
    }

    int put(int k, int v) {
        if (down) {
            return DOWN;
        }
        Node next;
        if (top == null) {
            next = new Node(true);
            next.keys.add(k);
            next.values.add(v);
            next.touched = true;
        } else {
            next = top.cloned();
            Node second = insert(next, k, v);
            if (second != null) {
                Node up = new Node(false);
                up.kids.add(next);
                up.keys.add(splitKey);
                up.kids.add(second);
                next = up;
            }
        }
        int answer = carryOut(next);
        if (answer == DONE) {
            working.put(k, v);
        }
        return answer;
    }

    private int splitKey;

    private Node insert(Node n, int k, int v) {
        if (n.leaf) {
            n.touched = true;
            int i = n.keys.indexOf(k);
            if (i >= 0) {
                n.values.set(i, v);
                return null;
            }
            i = 0;
            while (i < n.keys.size() && n.keys.get(i) < k) {
                i++;
            }
            n.keys.add(i, k);
            n.values.add(i, v);
            if (n.keys.size() <= lmost) {
                return null;
            }
            Node r = new Node(true);
            r.touched = true;
            int stay = (n.keys.size() + 1) / 2;
            while (n.keys.size() > stay) {
                r.keys.add(n.keys.remove(stay));
                r.values.add(n.values.remove(stay));
            }
            splitKey = r.keys.get(0);
            return r;
        }
        int c = n.kidFor(k);
        Node r = insert(n.kids.get(c), k, v);
        if (r == null) {
            return null;
        }
        n.kids.add(c + 1, r);
        n.keys.add(c, splitKey);
        if (n.kids.size() <= cmost) {
            return null;
        }
        Node right = new Node(false);
        int stay = (n.kids.size() + 1) / 2;
        while (n.kids.size() > stay) {
            right.kids.add(n.kids.remove(stay));
        }
        splitKey = n.keys.remove(stay - 1);
        while (n.keys.size() > stay - 1) {
            right.keys.add(n.keys.remove(stay - 1));
        }
        return right;
    }

    int remove(int k) {
        if (down) {
            return DOWN;
        }
        if (!working.containsKey(k)) {
            return ABSENT;
        }
        Node next = top.cloned();
        delete(next, k);
        while (next != null && !next.leaf && next.kids.size() == 1) {
            next = next.kids.get(0);
        }
        if (next != null && next.leaf && next.keys.isEmpty()) {
            next = null;
        }
        int answer = carryOut(next);
        if (answer == DONE) {
            working.remove(k);
        }
        return answer;
    }

    private void delete(Node n, int k) {
        if (n.leaf) {
            n.touched = true;
            int i = n.keys.indexOf(k);
            n.keys.remove(i);
            n.values.remove(i);
            return;
        }
        int c = n.kidFor(k);
        Node kid = n.kids.get(c);
        delete(kid, k);
        if (kid.leaf ? kid.keys.size() < lmin : kid.kids.size() < cmin) {
            mend(n, c == 0 ? 0 : c - 1);
        }
    }

    private void mend(Node parent, int l) {
        Node a = parent.kids.get(l);
        Node b = parent.kids.get(l + 1);
        List<Integer> keys = new ArrayList<>(a.keys);
        if (!a.leaf) {
            keys.add(parent.keys.get(l));
        }
        keys.addAll(b.keys);
        List<Integer> values = new ArrayList<>(a.values);
        values.addAll(b.values);
        List<Node> kids = new ArrayList<>(a.kids);
        kids.addAll(b.kids);
        int all = a.leaf ? keys.size() : kids.size();
        a.touched = true;
        b.touched = true;
        int first = all <= (a.leaf ? lmost : cmost) ? all : (all + 1) / 2;
        refill(a, keys, values, kids, 0, first);
        if (first == all) {
            parent.kids.remove(l + 1);
            parent.keys.remove(l);
        } else {
            refill(b, keys, values, kids, first, all);
            parent.keys.set(l, keys.get(a.leaf ? first : first - 1));
        }
    }

    private static void refill(Node n, List<Integer> keys, List<Integer> values, List<Node> kids,
            int from, int to) {
        n.keys.clear();
        n.values.clear();
        n.kids.clear();
        if (n.leaf) {
            n.keys.addAll(keys.subList(from, to));
            n.values.addAll(values.subList(from, to));
        } else {
            n.kids.addAll(kids.subList(from, to));
            n.keys.addAll(keys.subList(from, to - 1));
        }
    }

    private boolean isWritten(Node n) {
        if (n.touched || n.old == null) {
            return true;
        }
        if (n.leaf) {
            return false;
        }
        if (!n.keys.equals(n.old.keys) || n.kids.size() != n.old.kids.size()) {
            return true;
        }
        for (int i = 0; i < n.kids.size(); i++) {
            Node kid = n.kids.get(i);
            if (kid.old != n.old.kids.get(i) || kid.block != kid.old.block) {
                return true;
            }
        }
        return false;
    }

    private int carryOut(Node next) {
        TreeSet<Integer> free = free();
        List<Node> toWrite = new ArrayList<>();
        for (int h = 1; next != null && h <= next.height(); h++) {
            List<Node> level = new ArrayList<>();
            next.level(h, level);
            for (Node n : level) {
                if (isWritten(n)) {
                    if (!n.fresh) {
                        if (free.isEmpty()) {
                            return NOROOM;
                        }
                        n.block = free.pollFirst();
                        n.fresh = true;
                    }
                    toWrite.add(n);
                }
            }
        }
        for (Node n : toWrite) {
            if (!write(n.block, nodeWords(n))) {
                down = true;
                return DOWN;
            }
        }
        top = next;
        if (top != null) {
            top.settle();
        }
        return DONE;
    }

    private TreeSet<Integer> free() {
        TreeSet<Integer> free = new TreeSet<>();
        for (int b = 2; b < blocks; b++) {
            free.add(b);
        }
        free.removeAll(roots[0].reached);
        free.removeAll(roots[1].reached);
        free.removeAll(workBlocks());
        return free;
    }

    private Set<Integer> workBlocks() {
        Set<Integer> all = new HashSet<>();
        if (top != null) {
            top.blocksTo(all);
        }
        return all;
    }

    private int[] nodeWords(Node n) {
        int[] row = new int[words];
        row[0] = n.leaf ? 1 : 2;
        row[1] = n.leaf ? n.keys.size() : n.kids.size();
        int at = 2;
        if (n.leaf) {
            for (int i = 0; i < n.keys.size(); i++) {
                row[at++] = n.keys.get(i);
                row[at++] = n.values.get(i);
            }
        } else {
            row[at++] = n.kids.get(0).block;
            for (int i = 1; i < n.kids.size(); i++) {
                row[at++] = n.keys.get(i - 1);
                row[at++] = n.kids.get(i).block;
            }
        }
        row[words - 1] = sumOf(row);
        return row;
    }

    private int[] rootWords(int epoch, int block, int keys) {
        int[] row = new int[words];
        row[0] = Disks.MARK;
        row[1] = epoch;
        row[2] = block;
        row[3] = keys;
        row[words - 1] = sumOf(row);
        return row;
    }

    private static int sumOf(int[] row) {
        int s = 17;
        for (int i = 0; i + 1 < row.length; i++) {
            s = 31 * s + row[i];
        }
        return s;
    }

    private boolean write(int block, int[] row) {
        if (armedWrites == 0) {
            armedWrites = -1;
            for (int i = 0; i < words && i < armedWords; i++) {
                disk[block][i] = row[i];
            }
            return false;
        }
        if (armedWrites > 0) {
            armedWrites--;
        }
        disk[block] = row.clone();
        writes++;
        return true;
    }

    int get(int k) {
        return down ? 0 : working.getOrDefault(k, 0);
    }

    boolean contains(int k) {
        return !down && working.containsKey(k);
    }

    int was(int k) {
        return down ? 0 : committed.getOrDefault(k, 0);
    }

    int size() {
        return down ? -1 : working.size();
    }

    int rank(int k) {
        return down ? -1 : working.headMap(k, false).size();
    }

    int key(int i) {
        return down || i < 0 || i >= working.size() ? 0 : new ArrayList<>(working.keySet()).get(i);
    }

    int sum(int a, int b) {
        int s = 0;
        if (!down && a <= b) {
            for (int v : working.subMap(a, true, b, true).values()) {
                s += v;
            }
        }
        return s;
    }

    int commit() {
        if (down) {
            return DOWN;
        }
        int epoch = roots[latest].epoch + 1;
        int other = latest == 0 ? 1 : 0;
        if (!write(other, rootWords(epoch, top == null ? 0 : top.block, working.size()))) {
            down = true;
            return DOWN;
        }
        roots[other].epoch = epoch;
        roots[other].reached.clear();
        roots[other].reached.addAll(workBlocks());
        latest = other;
        committed = new TreeMap<>(working);
        if (top != null) {
            top.stale();
        }
        return DONE;
    }

    void arm(int n, int t) {
        armedWrites = n < 0 ? -1 : n;
        armedWords = t;
    }

    int recover() {
        down = true;
        Root zero = readRoot(0);
        Root one = readRoot(1);
        if (zero == null && one == null) {
            return NOTHING;
        }
        int taken = zero == null ? 1 : one == null ? 0 : one.epoch > zero.epoch ? 1 : 0;
        Root got = taken == 0 ? zero : one;
        if (zero == null || one == null) {
            if (!write(1 - taken, disk[taken])) {
                return DOWN;
            }
        }
        roots[0] = zero == null ? copied(one) : zero;
        roots[1] = one == null ? copied(zero) : one;
        latest = taken;
        top = got.top;
        working = new TreeMap<>();
        if (top != null) {
            top.mapTo(working);
        }
        committed = new TreeMap<>(working);
        down = false;
        return DONE;
    }

    private static Root copied(Root r) {
        Root c = new Root();
        c.epoch = r.epoch;
        c.reached.addAll(r.reached);
        return c;
    }

    private Root readRoot(int r) {
        int[] row = disk[r];
        if (row[0] != Disks.MARK || row[words - 1] != sumOf(row)) {
            return null;
        }
        Root root = new Root();
        root.epoch = row[1];
        if (row[2] == 0) {
            return row[3] == 0 ? root : null;
        }
        root.top = readNode(row[2], 1, root.reached);
        if (root.top == null) {
            return null;
        }
        Set<Integer> depths = new HashSet<>();
        List<Integer> keys = new ArrayList<>();
        if (!stands(root.top, 1, depths, keys) || depths.size() != 1 || keys.size() != row[3]) {
            return null;
        }
        for (int i = 1; i < keys.size(); i++) {
            if (keys.get(i - 1) >= keys.get(i)) {
                return null;
            }
        }
        return root;
    }

    private Node readNode(int b, int depth, Set<Integer> reached) {
        if (depth > 12 || b < 2 || b >= blocks || !reached.add(b)) {
            return null;
        }
        int[] row = disk[b];
        if (row[words - 1] != sumOf(row)) {
            return null;
        }
        Node n = new Node(row[0] == 1);
        n.block = b;
        int many = row[1];
        if (row[0] == 1) {
            if (many < 1 || many > lmost) {
                return null;
            }
            for (int i = 0; i < many; i++) {
                n.keys.add(row[2 + 2 * i]);
                n.values.add(row[3 + 2 * i]);
            }
            return n;
        }
        if (row[0] != 2 || many < 2 || many > cmost) {
            return null;
        }
        for (int i = 0; i < many; i++) {
            Node kid = readNode(row[2 + 2 * i], depth + 1, reached);
            if (kid == null) {
                return null;
            }
            if (i > 0) {
                n.keys.add(row[1 + 2 * i]);
            }
            n.kids.add(kid);
        }
        return n;
    }

    /** Whether all keys below a node stand as its KEYS and those below it say; lists the keys. */
    private static boolean stands(Node n, int depth, Set<Integer> depths, List<Integer> keys) {
        if (n.leaf) {
            depths.add(depth);
            keys.addAll(n.keys);
            return true;
        }
        for (int i = 0; i < n.kids.size(); i++) {
            int from = keys.size();
            if (!stands(n.kids.get(i), depth + 1, depths, keys)) {
                return false;
            }
            for (int key : keys.subList(from, keys.size())) {
                for (int j = 0; j < n.keys.size(); j++) {
                    if ((key < n.keys.get(j)) != (i <= j)) {
                        return false;
                    }
                }
            }
        }
        return true;
    }

    boolean decay(int block, int word, int mask) {
        if (block < 0 || block >= blocks || word < 0 || word >= words) {
            return false;
        }
        disk[block][word] ^= mask;
        return true;
    }

    int word(int block, int word) {
        return block < 0 || block >= blocks || word < 0 || word >= words ? 0 : disk[block][word];
    }

    int block(int b) {
        if (down || b < 0 || b >= blocks) {
            return -1;
        }
        if (b < 2) {
            return 0;
        }
        Node n = top == null ? null : nodeWith(top, b);
        if (n != null) {
            return n.fresh ? 2 : 3;
        }
        return roots[0].reached.contains(b) || roots[1].reached.contains(b) ? 4 : 1;
    }

    private static Node nodeWith(Node n, int b) {
        if (n.block == b) {
            return n;
        }
        for (Node kid : n.kids) {
            Node found = nodeWith(kid, b);
            if (found != null) {
                return found;
            }
        }
        return null;
    }

    int count(int what) {
        switch (what) {
            case 0:
                return blocks;
            case 1:
                return words;
            case 2:
                return writes;
            case 3:
                return down ? 1 : 0;
            case 4:
                return down ? -1 : roots[latest].epoch;
            case 5:
                return down ? 0 : free().size();
            case 6:
                return down || top == null ? 0 : top.height();
            case 7:
                return down || top == null ? 0 : top.block;
            case 8:
                return down ? 0 : workBlocks().size();
            case 9:
                return down ? 0 : committed.size();
            default:
                return 0;
        }
    }
}
