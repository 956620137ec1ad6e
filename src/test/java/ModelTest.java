import java.util.ArrayList;
import java.util.Arrays;
import java.util.List;

/**
 * All promises: long runs of calls on the class and on the model, with every answer and the whole
 * state compared. What only looks changes nothing, so it is not counted against the 512 calls.
 */
final class ModelTest {
    private static final int[] WORDS = {12, 12, 12, 13, 14, 15, 16, 17, 20, 27, 40};
    private static final int[] BLOCKS = {4, 5, 6, 8, 12, 16, 24, 40, 64, 64};
    private static final int[] EDGES = {
        0, 1, -1, 2, 3, Integer.MIN_VALUE, Integer.MAX_VALUE, Integer.MIN_VALUE + 1, Integer.MAX_VALUE - 1};

    private final Check check;
    private final int run;
    private long seed;
    private final TwinRoots x;
    private final Model m;
    private final StringBuilder calls = new StringBuilder();
    private final int keys;
    private final int mischief;

    private ModelTest(Check check, int run) {
        this.check = check;
        this.run = run;
        seed = run * 7919L + 17;
        int w = WORDS[below(WORDS.length)];
        int b = BLOCKS[below(BLOCKS.length)];
        x = new TwinRoots(w, b);
        m = new Model(w, b);
        keys = 1 + below(3) * 30 + below(200);
        mischief = below(4);
        calls.append("new TwinRoots(" + w + ", " + b + ")");
    }

    private int below(int n) {
        seed = seed * 6364136223846793005L + 1442695040888963407L;
        return (int) ((seed >>> 33) % n);
    }

    private int someKey() {
        return below(12) == 0 ? EDGES[below(EDGES.length)] : below(keys) - keys / 3;
    }

    /** The texts are joined for a wrong answer alone: there are millions of right ones. */
    private void due(String call, long got, long want, int... arguments) {
        boolean right = got == want;
        check.due(right ? call : "run " + run + ": " + calls + "; then " + call
                + Arrays.toString(arguments), got, want);
    }

    private void due(String call, boolean got, boolean want, int... arguments) {
        due(call, got ? 1 : 0, want ? 1 : 0, arguments);
    }

    private void note(String call) {
        calls.append("; ").append(call);
    }

    private void go(int steps) {
        if (below(5) != 0) {
            format();
        }
        int mood = 0;
        int commits = 2 + below(30);
        for (int i = 0; i < steps && !check.anyWrong(); i++) {
            if (i % 60 == 0) {
                mood = below(3);
            }
            step(mood, commits);
            compareState();
        }
    }

    private void step(int mood, int commits) {
        if (below(commits) == 0) {
            note("commit()");
            due("answer", x.commit(), m.commit());
        } else if (mischief > 0 && below(40) < mischief) {
            disturb();
        } else if (x.count(3) == 1 && below(3) == 0) {
            if (recover() == Model.NOTHING && below(3) == 0) {
                format();
            }
        } else if (below(10) < (mood == 0 ? 9 : mood == 1 ? 5 : 2)) {
            int k = someKey();
            int v = below(4) == 0 ? EDGES[below(EDGES.length)] : below(1000);
            note("put(" + k + ", " + v + ")");
            due("answer", x.put(k, v), m.put(k, v));
        } else {
            int k = below(5) == 0 ? someKey() : m.key(below(Math.max(1, m.size())));
            note("remove(" + k + ")");
            due("answer", x.remove(k), m.remove(k));
        }
    }

    private void format() {
        note("format()");
        x.format();
        m.format();
    }

    private int recover() {
        note("recover()");
        int answer = m.recover();
        due("answer", x.recover(), answer);
        return answer;
    }

    private void disturb() {
        switch (below(9)) {
            case 0:
                recover();
                break;
            case 1:
            case 2:
                int n = below(9) - 1;
                int t = below(m.words + 4) - 2;
                note("arm(" + n + ", " + t + ")");
                x.arm(n, t);
                m.arm(n, t);
                break;
            case 3:
                decay(below(m.blocks + 2) - 1, below(m.words + 2) - 1, 1 << below(32));
                break;
            case 4:
                poke(below(m.blocks), below(m.words - 1), below(6) == 0 ? someKey() : below(8));
                break;
            case 5:
                shortenALeaf();
                break;
            case 6:
                poke(below(2), 1, EDGES[below(EDGES.length)]);
                break;
            case 7:
                layTree(below(2));
                recover();
                break;
            default:
                if (below(4) == 0) {
                    format();
                }
        }
    }

    private void decay(int b, int w, int mask) {
        note("decay(" + b + ", " + w + ", " + mask + ")");
        due("answer", x.decay(b, w, mask), m.decay(b, w, mask));
    }

    private void set(int b, int w, int value) {
        if (m.word(b, w) != value) {
            decay(b, w, m.word(b, w) ^ value);
        }
    }

    private void seal(int b) {
        int s = 17;
        for (int i = 0; i < m.words - 1; i++) {
            s = 31 * s + m.word(b, i);
        }
        set(b, m.words - 1, s);
    }

    private void poke(int b, int w, int value) {
        set(b, w, value);
        seal(b);
    }

    /** One key less in a LEAF and in a ROOT: trees that are RIGHT, but below LMIN. */
    private void shortenALeaf() {
        int root = below(2);
        int b = m.word(root, 2);
        for (int depth = 0; depth < 12 && m.word(b, 0) == 2; depth++) {
            b = m.word(b, 2 + 2 * below(Math.max(1, Math.min(m.word(b, 1), (m.words - 2) / 2))));
        }
        if (b >= 2 && m.word(b, 0) == 1 && m.word(b, 1) > 1) {
            poke(b, 1, m.word(b, 1) - 1);
            poke(root, 3, m.word(root, 3) - 1);
        }
        if (below(2) == 0) {
            recover();
        }
    }

    /** A tree of any fill that is RIGHT, or RIGHT but for one thing, laid on the disk. */
    private void layTree(int root) {
        List<Integer> room = new ArrayList<>();
        for (int b = 2; b < m.blocks; b++) {
            room.add(below(room.size() + 1), b);
        }
        int depth = 1 + below(4);
        nextKey = below(50) - 25;
        laidKeys = 0;
        int top = layNode(depth, room);
        if (top == 0) {
            return;
        }
        for (int i = 4; i < m.words - 1; i++) {
            set(root, i, below(20) == 0 ? 7 : 0);
        }
        set(root, 0, Disks.MARK);
        set(root, 1, below(3) == 0 ? EDGES[below(EDGES.length)] : m.word(1 - root, 1) + below(3));
        set(root, 2, top);
        set(root, 3, laidKeys);
        seal(root);
        if (below(2) == 0) {
            int b = 2 + below(m.blocks - 2);
            int w = below(m.words - 1);
            poke(b, w, m.word(b, w) + below(3) - 1);
        }
    }

    private int nextKey;
    private int laidKeys;

    private int layNode(int depth, List<Integer> room) {
        if (room.isEmpty()) {
            return 0;
        }
        int b = room.remove(room.size() - 1);
        int[] row = new int[m.words];
        row[0] = depth == 1 ? 1 : 2;
        int most = depth == 1 ? (m.words - 3) / 2 : Math.min(4, (m.words - 2) / 2);
        int least = depth == 1 ? 1 : 2;
        int many = least + below(most - least + 1);
        row[1] = many;
        for (int i = 0; i < many; i++) {
            if (depth == 1) {
                nextKey += 1 + below(4);
                laidKeys++;
                row[2 + 2 * i] = nextKey;
                row[3 + 2 * i] = below(1000);
            } else {
                if (i > 0) {
                    row[1 + 2 * i] = nextKey + 1;
                }
                row[2 + 2 * i] = layNode(depth - 1, room);
                if (row[2 + 2 * i] == 0) {
                    return 0;
                }
            }
        }
        for (int i = 0; i < m.words - 1; i++) {
            set(b, i, row[i]);
        }
        seal(b);
        return b;
    }

    private void compareState() {
        for (int b = -1; b <= m.blocks; b++) {
            due("block", x.block(b), m.block(b), b);
            for (int w = -1; w <= m.words; w++) {
                if (x.word(b, w) != m.word(b, w)) {
                    due("word", x.word(b, w), m.word(b, w), b, w);
                }
            }
        }
        for (int what = -1; what <= 10; what++) {
            due("count", x.count(what), m.count(what), what);
        }
        due("size", x.size(), m.size());
        for (int i = 0; i < 5; i++) {
            int k = someKey();
            due("get", x.get(k), m.get(k), k);
            due("contains", x.contains(k), m.contains(k), k);
            due("was", x.was(k), m.was(k), k);
            due("rank", x.rank(k), m.rank(k), k);
            int at = below(Math.max(1, m.size()) + 2) - 1;
            due("key", x.key(at), m.key(at), at);
            int to = someKey();
            due("sum", x.sum(k, to), m.sum(k, to), k, to);
        }
    }

    public static void main(String[] args) {
        Check check = new Check("ModelTest");
        int runs = args.length > 0 ? Integer.parseInt(args[0]) : 400;
        for (int run = 0; run < runs && !check.anyWrong(); run++) {
            new ModelTest(check, run).go(450);
        }
        check.end();
    }
}
