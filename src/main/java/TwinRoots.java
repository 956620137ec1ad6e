/**
 * A map from numbers to numbers on a disk of blocks: a tree whose changed blocks are written anew
 * beside the old ones, two root blocks that take turns, writes that are cut, and a recovery that
 * comes back to what was committed last.
 */
public final class TwinRoots {
    public static final int DONE = 0;
    public static final int ABSENT = 1;
    public static final int NOROOM = 2;
    public static final int DOWN = 3;
    public static final int NOTHING = 4;

    private static final int FEWEST_WORDS = 12;
    private static final int MOST_WORDS = 40;
    private static final int FEWEST_BLOCKS = 4;
    private static final int MOST_BLOCKS = 64;
    private static final int ROOT_MARK = 1414677326;
    private static final int LEAF_KIND = 1;
    private static final int INNER_KIND = 2;
    private static final int FIRST_NODE = 2;
    private static final int DEEPEST = 12;
    private static final long BELOW_ALL_KEYS = -2147483649L;
    private static final long ABOVE_ALL_KEYS = 2147483648L;

    private final Disk disk;
    private final Forest forest;
    private final Survey survey;
    private final Plan plan;
    private final Editor editor;
    private final Told rootZero;
    private final Told rootOne;
    private final Told working;
    private int latest;
    private long fresh;
    private boolean down;

    public TwinRoots(int words, int blocks) {
        int w = Math.max(FEWEST_WORDS, Math.min(MOST_WORDS, words));
        int b = Math.max(FEWEST_BLOCKS, Math.min(MOST_BLOCKS, blocks));
        Limits limits = new Limits(w);
        disk = new Disk(w, b);
        forest = new Forest(w, b);
        survey = new Survey(disk, forest, limits);
        plan = new Plan(w);
        editor = new Editor(w, limits, forest, plan);
        rootZero = new Told();
        rootOne = new Told();
        working = new Told();
        down = true;
    }

    public void format() {
        disk.setCut(-1, 0);
        rootZero.tell(0, 0, 0, 0L);
        rootOne.tell(0, 0, 0, 0L);
        writeRoot(0);
        writeRoot(1);
        comeUp(0);
    }

    public int put(int k, int v) {
        if (down) {
            return DOWN;
        }
        plan.begin(freeBlocks(), fresh, working.reach);
        boolean more = !forest.leafFor(working.top, k).has(k);
        int top = editor.planPut(working.top, k, v);
        return carryOut(top, more ? working.keys + 1 : working.keys);
    }

    public int remove(int k) {
        if (down) {
            return DOWN;
        }
        if (!forest.leafFor(working.top, k).has(k)) {
            return ABSENT;
        }
        plan.begin(freeBlocks(), fresh, working.reach);
        int top = editor.planRemove(working.top, k);
        return carryOut(top, working.keys - 1);
    }

    public int get(int k) {
        return down ? 0 : forest.leafFor(working.top, k).valueOf(k);
    }

    public boolean contains(int k) {
        return !down && forest.leafFor(working.top, k).has(k);
    }

    public int was(int k) {
        return down ? 0 : forest.leafFor(told(latest).top, k).valueOf(k);
    }

    public int size() {
        return down ? -1 : working.keys;
    }

    public int rank(int k) {
        if (down) {
            return -1;
        }
        forest.walk(working.top);
        int below = 0;
        for (int i = 0; i < forest.leaves(); i++) {
            below += forest.leaf(i).placeOf(k);
        }
        return below;
    }

    public int key(int i) {
        if (down || i < 0) {
            return 0;
        }
        forest.walk(working.top);
        int left = i;
        for (int at = 0; at < forest.leaves(); at++) {
            Page leaf = forest.leaf(at);
            if (left < leaf.many) {
                return leaf.keyAt(left);
            }
            left -= leaf.many;
        }
        return 0;
    }

    public int sum(int a, int b) {
        if (down || a > b) {
            return 0;
        }
        forest.walk(working.top);
        int total = 0;
        for (int i = 0; i < forest.leaves(); i++) {
            total += forest.leaf(i).valuesBetween(a, b);
        }
        return total;
    }

    public int commit() {
        if (down) {
            return DOWN;
        }
        int other = 1 - latest;
        told(other).tell(told(latest).epoch + 1, working.top, working.keys, working.reach);
        if (!writeRoot(other)) {
            return goDown();
        }
        latest = other;
        fresh = 0L;
        return DONE;
    }

    public void arm(int n, int t) {
        disk.setCut(n, t);
    }

    public int recover() {
        down = true;
        boolean zeroRight = survey.findsRight(0, rootZero);
        boolean oneRight = survey.findsRight(1, rootOne);
        if (!zeroRight && !oneRight) {
            return NOTHING;
        }
        int taken = oneRight && (!zeroRight || rootOne.epoch > rootZero.epoch) ? 1 : 0;
        if (!zeroRight || !oneRight) {
            int other = 1 - taken;
            if (!disk.copyBlock(taken, other)) {
                return DOWN;
            }
            told(other).copy(told(taken));
        }
        comeUp(taken);
        return DONE;
    }

    public boolean decay(int block, int word, int mask) {
        return disk.turn(block, word, mask);
    }

    public int word(int block, int word) {
        return disk.read(block, word);
    }

    public int block(int block) {
        if (down || block < 0 || block >= disk.blocks) {
            return -1;
        }
        if (block < FIRST_NODE) {
            return 0;
        }
        if (holds(working.reach, block)) {
            return holds(fresh, block) ? 2 : 3;
        }
        return holds(freeBlocks(), block) ? 1 : 4;
    }

    public int count(int what) {
        switch (what) {
            case 0:
                return disk.blocks;
            case 1:
                return disk.words;
            case 2:
                return disk.writes;
            case 3:
                return down ? 1 : 0;
            case 4:
                return down ? -1 : told(latest).epoch;
            default:
                return down ? 0 : countWhenUp(what);
        }
    }

    private int countWhenUp(int what) {
        switch (what) {
            case 5:
                return Long.bitCount(freeBlocks());
            case 6:
                forest.walk(working.top);
                return forest.depth;
            case 7:
                return working.top;
            case 8:
                return Long.bitCount(working.reach);
            case 9:
                return told(latest).keys;
            default:
                return 0;
        }
    }

    private Told told(int root) {
        return root == 1 ? rootOne : rootZero;
    }

    private boolean writeRoot(int root) {
        told(root).layOut(disk);
        return disk.write(root);
    }

    private void comeUp(int root) {
        latest = root;
        working.copy(told(root));
        fresh = 0L;
        down = false;
    }

    private int goDown() {
        down = true;
        return DOWN;
    }

    private long freeBlocks() {
        long taken = working.reach | rootZero.reach | rootOne.reach;
        long free = 0L;
        for (int b = FIRST_NODE; b < disk.blocks; b++) {
            if (!holds(taken, b)) {
                free |= bit(b);
            }
        }
        return free;
    }

    private int carryOut(int top, int keys) {
        if (plan.noRoom) {
            return NOROOM;
        }
        for (int i = 0; i < plan.many; i++) {
            int block = plan.target(i);
            Page page = forest.page(block);
            page.copy(plan.draft(i));
            page.layOut(disk);
            if (!disk.write(block)) {
                return goDown();
            }
        }
        working.tell(working.epoch, top, keys, plan.work);
        fresh = plan.fresh & plan.work;
        return DONE;
    }

    private static long bit(int block) {
        return 1L << block;
    }

    private static boolean holds(long set, int block) {
        return (set & bit(block)) != 0L;
    }

    /** How many keys or children a NODE may have, by the WORDS of a BLOCK. */
    private static final class Limits {
        private final int mostKeys;
        private final int mostChildren;

        Limits(int words) {
            mostKeys = (words - 3) / 2;
            mostChildren = (words - 2) / 2;
        }

        int most(boolean leaf) {
            return leaf ? mostKeys : mostChildren;
        }

        int least(boolean leaf) {
            return leaf ? mostKeys / 2 : (mostChildren + 1) / 2;
        }
    }

    /** The disk: its WORDS, the block image that is to be written next, and the cut that is armed. */
    private static final class Disk {
        final int words;
        final int blocks;
        int writes;
        private final int[] cells;
        private final int[] image;
        private int writesAhead;
        private int wordsOfCut;

        Disk(int words, int blocks) {
            this.words = words;
            this.blocks = blocks;
            cells = new int[words * blocks];
            image = new int[words];
            writesAhead = -1;
        }

        void setCut(int writesBefore, int wordsToCome) {
            writesAhead = Math.max(-1, writesBefore);
            wordsOfCut = Math.max(0, Math.min(words, wordsToCome));
        }

        private int cellOf(int block, int word) {
            boolean there = block >= 0 && block < blocks && word >= 0 && word < words;
            return there ? block * words + word : -1;
        }

        int read(int block, int word) {
            int cell = cellOf(block, word);
            return cell >= 0 && cell < cells.length ? cells[cell] : 0;
        }

        boolean turn(int block, int word, int mask) {
            int cell = cellOf(block, word);
            if (cell < 0 || cell >= cells.length) {
                return false;
            }
            cells[cell] ^= mask;
            return true;
        }

        boolean isSealed(int block) {
            int first = cellOf(block, 0);
            int last = cellOf(block, words - 1);
            return last >= 0 && last < cells.length && cells[last] == sealOf(cells, first, last);
        }

        private static int sealOf(int[] row, int start, int end) {
            int s = 17;
            for (int i = Math.max(0, start); i < end && i < row.length; i++) {
                s = 31 * s + row[i];
            }
            return s;
        }

        void startImage() {
            for (int i = 0; i < image.length; i++) {
                image[i] = 0;
            }
        }

        void lay(int word, int value) {
            if (word >= 0 && word < image.length) {
                image[word] = value;
            }
        }

        /** Writes the image to a block; false if the write was cut. */
        boolean write(int block) {
            lay(words - 1, sealOf(image, 0, words - 1));
            boolean cut = writesAhead == 0;
            int coming = cut ? wordsOfCut : words;
            for (int i = 0; i < coming && i < image.length; i++) {
                int cell = cellOf(block, i);
                if (cell >= 0 && cell < cells.length) {
                    cells[cell] = image[i];
                }
            }
            if (writesAhead >= 0) {
                writesAhead--;
            }
            if (!cut) {
                writes++;
            }
            return !cut;
        }

        boolean copyBlock(int from, int to) {
            for (int i = 0; i < words; i++) {
                lay(i, read(from, i));
            }
            return write(to);
        }
    }

    /** What a ROOT tells, and the set of the BLOCKS that are reached from it. */
    private static final class Told {
        int epoch;
        int top;
        int keys;
        long reach;

        void tell(int newEpoch, int newTop, int newKeys, long newReach) {
            epoch = newEpoch;
            top = newTop;
            keys = newKeys;
            reach = newReach;
        }

        void copy(Told other) {
            tell(other.epoch, other.top, other.keys, other.reach);
        }

        void layOut(Disk disk) {
            disk.startImage();
            disk.lay(0, ROOT_MARK);
            disk.lay(1, epoch);
            disk.lay(2, top);
            disk.lay(3, keys);
        }
    }

    /**
     * A NODE in memory, as rows of keys and refs: of a LEAF the keys with their values, of an INNER
     * the children's BLOCKS, each with the KEY ahead of it. The first child's key has no meaning;
     * it gives the KEY between two NODES a place when they are joined or parted, so that LEAVES and
     * INNER NODES are joined and parted alike.
     */
    private static final class Page {
        boolean leaf;
        int many;
        private final int[] keys;
        private final int[] refs;

        Page(int room) {
            leaf = true;
            keys = new int[room];
            refs = new int[room];
        }

        void clear(boolean asLeaf) {
            leaf = asLeaf;
            many = 0;
        }

        void copy(Page other) {
            clear(other.leaf);
            append(other, 0);
        }

        void append(Page other, int from) {
            for (int i = from; i < other.many && many < keys.length && many < refs.length; i++) {
                keys[many] = other.keyAt(i);
                refs[many] = other.refAt(i);
                many++;
            }
        }

        int keyAt(int i) {
            return i >= 0 && i < many && i < keys.length ? keys[i] : 0;
        }

        int refAt(int i) {
            return i >= 0 && i < many && i < refs.length ? refs[i] : 0;
        }

        void setKey(int i, int key) {
            if (i >= 0 && i < many && i < keys.length) {
                keys[i] = key;
            }
        }

        void setRef(int i, int ref) {
            if (i >= 0 && i < many && i < refs.length) {
                refs[i] = ref;
            }
        }

        void insert(int at, int key, int ref) {
            if (at < 0 || at > many || many >= keys.length || many >= refs.length) {
                return;
            }
            many++;
            for (int i = many - 1; i > at; i--) {
                setKey(i, keyAt(i - 1));
                setRef(i, refAt(i - 1));
            }
            setKey(at, key);
            setRef(at, ref);
        }

        void takeOut(int at) {
            if (at < 0 || at >= many) {
                return;
            }
            for (int i = at; i < many - 1; i++) {
                setKey(i, keyAt(i + 1));
                setRef(i, refAt(i + 1));
            }
            many--;
        }

        /** The first half (rounded up) stays here, the rest goes to the other page. */
        void partInto(Page rest) {
            int half = (many + 1) / 2;
            rest.clear(leaf);
            rest.append(this, half);
            many = half;
        }

        /** Of a LEAF: how many keys are below this one. */
        int placeOf(int key) {
            int place = 0;
            while (place < many && keyAt(place) < key) {
                place++;
            }
            return place;
        }

        /** Of an INNER: the place of the child below which a key belongs. */
        int childFor(int key) {
            int place = 0;
            while (place + 1 < many && keyAt(place + 1) <= key) {
                place++;
            }
            return place;
        }

        boolean has(int key) {
            int place = placeOf(key);
            return place < many && keyAt(place) == key;
        }

        int valueOf(int key) {
            return has(key) ? refAt(placeOf(key)) : 0;
        }

        int valuesBetween(int from, int to) {
            int total = 0;
            for (int i = 0; i < many; i++) {
                if (keyAt(i) >= from && keyAt(i) <= to) {
                    total += refAt(i);
                }
            }
            return total;
        }

        private int firstKeyWord() {
            return leaf ? 2 : 1;
        }

        void layOut(Disk disk) {
            disk.startImage();
            for (int i = 0; i < many; i++) {
                disk.lay(firstKeyWord() + 2 * i, keyAt(i));
                disk.lay(firstKeyWord() + 2 * i + 1, refAt(i));
            }
            // Laid last, as the first child's key, which has no meaning, falls on WORD 1.
            disk.lay(0, leaf ? LEAF_KIND : INNER_KIND);
            disk.lay(1, many);
        }

        /** Reads a NODE from the disk; false if its kind, how many it has, or its SUM is wrong. */
        boolean readFrom(Disk disk, int block, Limits limits) {
            int kind = disk.read(block, 0);
            int told = disk.read(block, 1);
            clear(kind == LEAF_KIND);
            int fewest = leaf ? 1 : 2;
            if (kind != LEAF_KIND && kind != INNER_KIND
                    || told < fewest || told > limits.most(leaf) || !disk.isSealed(block)) {
                return false;
            }
            for (int i = 0; i < told; i++) {
                int word = firstKeyWord() + 2 * i;
                insert(i, disk.read(block, word), disk.read(block, word + 1));
            }
            return true;
        }
    }

    /** The NODES in memory, one page for each BLOCK, and the line of a tree's NODES, level by level. */
    private static final class Forest {
        int depth;
        private final Page[] pages;
        private final Page empty;
        private final int[] line;
        private int lowestLevel;
        private int lineEnd;

        Forest(int words, int blocks) {
            pages = new Page[blocks];
            for (int i = 0; i < pages.length; i++) {
                pages[i] = new Page(words);
            }
            empty = new Page(0);
            line = new int[blocks];
        }

        Page page(int block) {
            return block >= FIRST_NODE && block < pages.length ? pages[block] : empty;
        }

        Page leafFor(int top, int key) {
            Page page = page(top);
            for (int level = 1; level < DEEPEST && !page.leaf; level++) {
                page = page(page.refAt(page.childFor(key)));
            }
            return page.leaf ? page : empty;
        }

        void walk(int top) {
            depth = 0;
            lowestLevel = 0;
            lineEnd = 0;
            if (top == 0) {
                return;
            }
            lineUp(top);
            depth = 1;
            while (depth < DEEPEST && !inLine(lowestLevel).leaf) {
                int levelEnd = lineEnd;
                for (int i = lowestLevel; i < levelEnd; i++) {
                    lineUpChildren(inLine(i));
                }
                lowestLevel = levelEnd;
                depth++;
            }
        }

        int leaves() {
            return lineEnd - lowestLevel;
        }

        Page leaf(int i) {
            return inLine(lowestLevel + i);
        }

        private Page inLine(int i) {
            return i >= 0 && i < lineEnd && i < line.length ? page(line[i]) : empty;
        }

        private void lineUp(int block) {
            if (lineEnd < line.length) {
                line[lineEnd] = block;
                lineEnd++;
            }
        }

        private void lineUpChildren(Page page) {
            for (int i = 0; i < page.many; i++) {
                lineUp(page.refAt(i));
            }
        }
    }

    /**
     * Reads a ROOT's tree from the disk into the forest and finds whether it is RIGHT. The tree is
     * read level by level, so that LEAVES are equally deep just if each level is of one kind.
     */
    private static final class Survey {
        private final Disk disk;
        private final Forest forest;
        private final Limits limits;
        private final int[] line;
        private final long[] lowest;
        private final long[] ceiling;
        private int lineEnd;
        private long reached;
        private int keysFound;
        private long lastKey;

        Survey(Disk disk, Forest forest, Limits limits) {
            this.disk = disk;
            this.forest = forest;
            this.limits = limits;
            line = new int[disk.blocks];
            lowest = new long[disk.blocks];
            ceiling = new long[disk.blocks];
        }

        /** Whether a ROOT is RIGHT; what it tells comes to the last argument. */
        boolean findsRight(int root, Told told) {
            lineEnd = 0;
            reached = 0L;
            keysFound = 0;
            lastKey = BELOW_ALL_KEYS;
            told.tell(disk.read(root, 1), disk.read(root, 2), disk.read(root, 3), 0L);
            if (disk.read(root, 0) != ROOT_MARK || !disk.isSealed(root)) {
                return false;
            }
            if (told.top != 0) {
                if (!reach(told.top, BELOW_ALL_KEYS, ABOVE_ALL_KEYS) || !levelsAreRight()) {
                    return false;
                }
            }
            told.reach = reached;
            return told.keys == keysFound;
        }

        private boolean levelsAreRight() {
            int start = 0;
            for (int depth = 1; depth <= DEEPEST; depth++) {
                int end = lineEnd;
                boolean leaves = disk.read(blockAt(start), 0) == LEAF_KIND;
                for (int i = start; i < end; i++) {
                    if (!nodeIsRight(i, leaves)) {
                        return false;
                    }
                }
                if (leaves) {
                    return true;
                }
                start = end;
            }
            return false;
        }

        private boolean nodeIsRight(int at, boolean leaf) {
            Page page = forest.page(blockAt(at));
            if (!page.readFrom(disk, blockAt(at), limits) || page.leaf != leaf) {
                return false;
            }
            return leaf ? keysAreRight(page, at) : childrenAreReached(page, at);
        }

        private boolean keysAreRight(Page leaf, int at) {
            for (int i = 0; i < leaf.many; i++) {
                long key = leaf.keyAt(i);
                if (key <= lastKey || key < lowestAt(at) || key >= ceilingAt(at)) {
                    return false;
                }
                lastKey = key;
                keysFound++;
            }
            return true;
        }

        private boolean childrenAreReached(Page inner, int at) {
            for (int i = 0; i < inner.many; i++) {
                long low = lowestAt(at);
                long high = ceilingAt(at);
                if (i > 0) {
                    low = Math.max(low, inner.keyAt(i));
                }
                if (i + 1 < inner.many) {
                    high = Math.min(high, inner.keyAt(i + 1));
                }
                if (!reach(inner.refAt(i), low, high)) {
                    return false;
                }
            }
            return true;
        }

        private boolean reach(int block, long low, long high) {
            boolean there = block >= FIRST_NODE && block < disk.blocks;
            if (!there || holds(reached, block) || lineEnd >= line.length) {
                return false;
            }
            reached |= bit(block);
            line[lineEnd] = block;
            lowest[lineEnd] = low;
            ceiling[lineEnd] = high;
            lineEnd++;
            return true;
        }

        private int blockAt(int at) {
            return at >= 0 && at < line.length ? line[at] : 0;
        }

        private long lowestAt(int at) {
            return at >= 0 && at < lowest.length ? lowest[at] : ABOVE_ALL_KEYS;
        }

        private long ceilingAt(int at) {
            return at >= 0 && at < ceiling.length ? ceiling[at] : BELOW_ALL_KEYS;
        }
    }

    /**
     * What a call is going to write, in the order of its WRITES, with the BLOCKS that it takes.
     * Nothing is written while it is made, so that a call without room can leave all as it was.
     */
    private static final class Plan {
        int many;
        long fresh;
        long work;
        boolean noRoom;
        private final Page[] drafts;
        private final int[] targets;
        private final Page blank;
        private long free;

        Plan(int words) {
            drafts = new Page[2 * DEEPEST + 1];
            for (int i = 0; i < drafts.length; i++) {
                drafts[i] = new Page(words);
            }
            targets = new int[drafts.length];
            blank = new Page(0);
        }

        void begin(long freeBlocks, long freshBlocks, long workBlocks) {
            many = 0;
            noRoom = false;
            free = freeBlocks;
            fresh = freshBlocks;
            work = workBlocks;
        }

        /** Plans the WRITE of a NODE that has a BLOCK (0: a new one has none), and tells its BLOCK then. */
        int write(Page node, int block) {
            int target = holds(fresh, block) ? block : takeLeast();
            work = work & ~bit(block) | bit(target);
            if (many < drafts.length && many < targets.length) {
                drafts[many].copy(node);
                targets[many] = target;
                many++;
            }
            return target;
        }

        void drop(int block) {
            work &= ~bit(block);
        }

        private int takeLeast() {
            for (int b = FIRST_NODE; b < MOST_BLOCKS; b++) {
                if (holds(free, b)) {
                    free &= ~bit(b);
                    fresh |= bit(b);
                    return b;
                }
            }
            noRoom = true;
            return 0;
        }

        Page draft(int i) {
            return i >= 0 && i < many && i < drafts.length ? drafts[i] : blank;
        }

        int target(int i) {
            return i >= 0 && i < many && i < targets.length ? targets[i] : 0;
        }
    }

    /** Plans how PUT and REMOVE change the tree, from the LEAF upward. */
    private static final class Editor {
        private final Limits limits;
        private final Forest forest;
        private final Plan plan;
        private final int[] pathBlocks;
        private final int[] pathPlaces;
        private int levels;
        private final Page node;
        private final Page mate;
        private final Page above;

        Editor(int words, Limits limits, Forest forest, Plan plan) {
            this.limits = limits;
            this.forest = forest;
            this.plan = plan;
            pathBlocks = new int[DEEPEST];
            pathPlaces = new int[DEEPEST];
            node = new Page(words);
            mate = new Page(words);
            above = new Page(words);
        }

        /** Plans a PUT; tells the uppermost NODE's BLOCK then. */
        int planPut(int top, int key, int value) {
            findPath(top, key);
            node.copy(forest.page(blockAt(levels - 1)));
            int place = node.placeOf(key);
            if (node.has(key)) {
                node.setRef(place, value);
            } else {
                node.insert(place, key, value);
            }
            for (int level = levels - 1; level > 0; level--) {
                if (!writeUpward(level)) {
                    return top;
                }
            }
            return writeUppermost(top);
        }

        /** Writes the node of a level, as two if it has too many; false if nothing changes above. */
        private boolean writeUpward(int level) {
            int block = blockAt(level);
            int place = placeAt(level - 1);
            boolean two = partIfTooMany();
            int target = plan.write(node, block);
            if (!two && target == block) {
                return false;
            }
            above.copy(forest.page(blockAt(level - 1)));
            above.setRef(place, target);
            if (two) {
                above.insert(place + 1, mate.keyAt(0), plan.write(mate, 0));
            }
            node.copy(above);
            return true;
        }

        private int writeUppermost(int top) {
            boolean two = partIfTooMany();
            int target = plan.write(node, top);
            if (!two) {
                return target;
            }
            above.clear(false);
            above.insert(0, 0, target);
            above.insert(1, mate.keyAt(0), plan.write(mate, 0));
            return plan.write(above, 0);
        }

        private boolean partIfTooMany() {
            if (node.many <= limits.most(node.leaf)) {
                return false;
            }
            node.partInto(mate);
            return true;
        }

        /** Plans the REMOVE of a key that is there; tells the uppermost NODE's BLOCK then. */
        int planRemove(int top, int key) {
            findPath(top, key);
            node.copy(forest.page(blockAt(levels - 1)));
            node.takeOut(node.placeOf(key));
            boolean changed = true;
            for (int level = levels - 1; level > 0; level--) {
                above.copy(forest.page(blockAt(level - 1)));
                if (node.many < limits.least(node.leaf)) {
                    mend(placeAt(level - 1));
                    changed = true;
                } else if (changed) {
                    int target = plan.write(node, blockAt(level));
                    above.setRef(placeAt(level - 1), target);
                    changed = target != blockAt(level);
                }
                node.copy(above);
            }
            return changed ? settleUppermost(top) : top;
        }

        /** Mends the node, which is the child at a place of the one above, with its neighbour. */
        private void mend(int place) {
            int left = Math.max(0, place - 1);
            int leftBlock = above.refAt(left);
            int rightBlock = above.refAt(left + 1);
            if (place > 0) {
                mate.copy(node);
                node.copy(forest.page(leftBlock));
            } else {
                mate.copy(forest.page(rightBlock));
            }
            if (!mate.leaf) {
                mate.setKey(0, above.keyAt(left + 1));
            }
            node.append(mate, 0);
            boolean two = partIfTooMany();
            above.setRef(left, plan.write(node, leftBlock));
            if (two) {
                above.setRef(left + 1, plan.write(mate, rightBlock));
                above.setKey(left + 1, mate.keyAt(0));
            } else {
                above.takeOut(left + 1);
                plan.drop(rightBlock);
            }
        }

        // A joined child has three children or one key at least, so one NODE at most drops out here.
        private int settleUppermost(int top) {
            if (node.leaf ? node.many > 0 : node.many > 1) {
                return plan.write(node, top);
            }
            plan.drop(top);
            return node.leaf ? 0 : node.refAt(0);
        }

        private void findPath(int top, int key) {
            levels = 1;
            setPath(0, top, 0);
            Page page = forest.page(top);
            while (levels < DEEPEST && !page.leaf) {
                int place = page.childFor(key);
                setPath(levels - 1, blockAt(levels - 1), place);
                setPath(levels, page.refAt(place), 0);
                page = forest.page(page.refAt(place));
                levels++;
            }
        }

        private void setPath(int level, int block, int place) {
            if (level >= 0 && level < pathBlocks.length && level < pathPlaces.length) {
                pathBlocks[level] = block;
                pathPlaces[level] = place;
            }
        }

        private int blockAt(int level) {
            return level >= 0 && level < pathBlocks.length ? pathBlocks[level] : 0;
        }

        private int placeAt(int level) {
            return level >= 0 && level < pathPlaces.length ? pathPlaces[level] : 0;
        }
    }
}
