import java.util.ArrayList;
import java.util.List;

/**
 * All promises: long runs of calls that are made on the model, and then on the class, with every
 * answer compared. An object answers 512 calls at most, so the whole state is compared on several
 * objects, each with the run behind it and with another part of what can be asked, up to its 512th.
 */
final class ModelTest {
    private static final int MOST_CALLS = 512;
    private static final int[] WORDS = {12, 12, 12, 13, 14, 15, 16, 17, 20, 27, 40};
    private static final int[] BLOCKS = {4, 5, 6, 8, 12, 16, 24, 40, 64, 64};
    private static final int[] EDGES = {
        0, 1, -1, 2, 3, Integer.MIN_VALUE, Integer.MAX_VALUE, Integer.MIN_VALUE + 1, Integer.MAX_VALUE - 1};

    private final Check check;
    private final int run;
    private long seed;
    private final Model m;
    private final List<Call> calls = new ArrayList<>();
    private final int keys;
    private final int mischief;

    private ModelTest(Check check, int run) {
        this.check = check;
        this.run = run;
        seed = run * 7919L + 17;
        m = new Model(WORDS[below(WORDS.length)], BLOCKS[below(BLOCKS.length)]);
        keys = 1 + below(3) * 30 + below(200);
        mischief = below(4);
    }

    private int below(int n) {
        seed = seed * 6364136223846793005L + 1442695040888963407L;
        return (int) ((seed >>> 33) % n);
    }

    private int someKey() {
        return below(12) == 0 ? EDGES[below(EDGES.length)] : below(keys) - keys / 3;
    }

    /** Makes a call on the model, and keeps it with its answer for the class. */
    private int made(Call.What what, int... arguments) {
        Call call = new Call(m, what, arguments);
        calls.add(call);
        return call.answer;
    }

    private void go() {
        int most = 60 + below(440);
        int commits = 2 + below(30);
        int apart = 5 + below(60);
        int mood = 0;
        if (below(5) != 0) {
            made(Call.What.FORMAT);
        }
        while (calls.size() < most && !check.anyWrong()) {
            if (below(60) == 0) {
                mood = below(3);
            }
            step(mood, commits);
            if (below(apart) == 0) {
                compareState();
            }
        }
        compareState();
    }

    private void step(int mood, int commits) {
        if (below(commits) == 0) {
            made(Call.What.COMMIT);
        } else if (mischief > 0 && below(40) < mischief) {
            disturb();
        } else if (m.count(3) == 1 && below(3) == 0) {
            if (made(Call.What.RECOVER) == Model.NOTHING && below(3) == 0) {
                made(Call.What.FORMAT);
            }
        } else if (below(10) < (mood == 0 ? 9 : mood == 1 ? 5 : 2)) {
            made(Call.What.PUT, someKey(), below(4) == 0 ? EDGES[below(EDGES.length)] : below(1000));
        } else {
            made(Call.What.REMOVE, below(5) == 0 ? someKey() : m.key(below(Math.max(1, m.size()))));
        }
    }

    private void disturb() {
        switch (below(9)) {
            case 0:
                made(Call.What.RECOVER);
                break;
            case 1:
            case 2:
                made(Call.What.ARM, below(9) - 1, below(m.words + 4) - 2);
                break;
            case 3:
                made(Call.What.DECAY, below(m.blocks + 2) - 1, below(m.words + 2) - 1, 1 << below(32));
                break;
            case 4:
                poke(below(m.blocks), below(m.words - 1), below(6) == 0 ? someKey() : below(8));
                break;
            case 5:
                shortenALeaf();
                break;
            case 6:
                poke(below(2), 1, EDGES[below(EDGES.length)]);
                break;
            case 7:
                layTree(below(2));
                made(Call.What.RECOVER);
                break;
            default:
                if (below(4) == 0) {
                    made(Call.What.FORMAT);
                }
        }
    }

    private void set(int b, int w, int value) {
        if (m.word(b, w) != value) {
            made(Call.What.DECAY, b, w, m.word(b, w) ^ value);
        }
    }

    private void seal(int b) {
        int s = 17;
        for (int i = 0; i < m.words - 1; i++) {
            s = 31 * s + m.word(b, i);
        }
        set(b, m.words - 1, s);
    }

    private void poke(int b, int w, int value) {
        set(b, w, value);
        seal(b);
    }

    /** One key less in a LEAF and in a ROOT: trees that are RIGHT, but below LMIN. */
    private void shortenALeaf() {
        int root = below(2);
        int b = m.word(root, 2);
        for (int depth = 0; depth < 12 && m.word(b, 0) == 2; depth++) {
            b = m.word(b, 2 + 2 * below(Math.max(1, Math.min(m.word(b, 1), (m.words - 2) / 2))));
        }
        if (b >= 2 && m.word(b, 0) == 1 && m.word(b, 1) > 1) {
            poke(b, 1, m.word(b, 1) - 1);
            poke(root, 3, m.word(root, 3) - 1);
        }
        if (below(2) == 0) {
            made(Call.What.RECOVER);
        }
    }

    /** A tree of any fill that is RIGHT, or RIGHT but for one thing, laid on the disk if calls are left. */
    private void layTree(int root) {
        if (calls.size() > MOST_CALLS / 3) {
            return;
        }
        List<Integer> room = new ArrayList<>();
        for (int b = 2; b < m.blocks; b++) {
            room.add(below(room.size() + 1), b);
        }
        nextKey = below(50) - 25;
        laidKeys = 0;
        int top = layNode(1 + below(4), room);
        if (top == 0) {
            return;
        }
        for (int i = 4; i < m.words - 1; i++) {
            set(root, i, below(20) == 0 ? 7 : 0);
        }
        set(root, 0, Disks.MARK);
        set(root, 1, below(3) == 0 ? EDGES[below(EDGES.length)] : m.word(1 - root, 1) + below(3));
        set(root, 2, top);
        set(root, 3, laidKeys);
        seal(root);
        if (below(2) == 0) {
            int b = 2 + below(m.blocks - 2);
            int w = below(m.words - 1);
            poke(b, w, m.word(b, w) + below(3) - 1);
        }
    }

    private int nextKey;
    private int laidKeys;

    private int layNode(int depth, List<Integer> room) {
        if (room.isEmpty() || calls.size() > MOST_CALLS - 4 * m.words) {
            return 0;
        }
        int b = room.remove(room.size() - 1);
        int[] row = new int[m.words];
        row[0] = depth == 1 ? 1 : 2;
        int most = Math.min(depth == 1 ? 5 : 4, depth == 1 ? (m.words - 3) / 2 : (m.words - 2) / 2);
        int least = depth == 1 ? 1 : 2;
        int many = least + below(most - least + 1);
        row[1] = many;
        for (int i = 0; i < many; i++) {
            if (depth == 1) {
                nextKey += 1 + below(4);
                laidKeys++;
                row[2 + 2 * i] = nextKey;
                row[3 + 2 * i] = below(1000);
            } else {
                if (i > 0) {
                    row[1 + 2 * i] = nextKey + 1;
                }
                row[2 + 2 * i] = layNode(depth - 1, room);
                if (row[2 + 2 * i] == 0) {
                    return 0;
                }
            }
        }
        for (int i = 0; i < m.words - 1; i++) {
            set(b, i, row[i]);
        }
        seal(b);
        return b;
    }

    private List<Call> looks() {
        List<Call> all = new ArrayList<>();
        for (int what = -1; what <= 10; what++) {
            all.add(new Call(m, Call.What.COUNT, what));
        }
        all.add(new Call(m, Call.What.SIZE));
        for (int i = 0; i < 9; i++) {
            int k = someKey();
            all.add(new Call(m, Call.What.GET, k));
            all.add(new Call(m, Call.What.CONTAINS, k));
            all.add(new Call(m, Call.What.WAS, k));
            all.add(new Call(m, Call.What.RANK, k));
            all.add(new Call(m, Call.What.KEY, below(Math.max(1, m.size()) + 2) - 1));
            all.add(new Call(m, Call.What.SUM, k, someKey()));
        }
        for (int b = -1; b <= m.blocks; b++) {
            all.add(new Call(m, Call.What.BLOCK, b));
            for (int w = -1; w <= m.words; w++) {
                all.add(new Call(m, Call.What.WORD, b, w));
            }
        }
        return all;
    }

    private void compareState() {
        int room = MOST_CALLS - calls.size();
        if (room <= 0) {
            return;
        }
        List<Call> looks = looks();
        for (int from = 0; from < looks.size() && !check.anyWrong(); from += room) {
            TwinRoots x = new TwinRoots(m.words, m.blocks);
            for (int i = 0; i < calls.size(); i++) {
                due(x, calls.get(i), i);
            }
            for (int i = 0; i < room; i++) {
                due(x, looks.get((from + i) % looks.size()), calls.size());
            }
        }
    }

    /** The text of the run is joined for a wrong answer alone: there are millions of right ones. */
    private void due(TwinRoots x, Call call, int ahead) {
        int got = call.on(x);
        String told = "";
        if (got != call.answer) {
            told = "run " + run + ": new TwinRoots(" + m.words + ", " + m.blocks + ") " + calls.subList(0, ahead)
                    + "; then " + call;
        }
        check.due(told, got, call.answer);
    }

    public static void main(String[] args) {
        Check check = new Check("ModelTest");
        int runs = args.length > 0 ? Integer.parseInt(args[0]) : 1200;
        for (int run = 0; run < runs && !check.anyWrong(); run++) {
            new ModelTest(check, run).go();
        }
        check.end();
    }
}
