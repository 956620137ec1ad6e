import java.util.Arrays;

/** A call with the model's answer, to be made on the class, too; a boolean counts 1 or 0. */
final class Call {
    /** The calls of the document's face. */
    enum What {
        FORMAT, PUT, REMOVE, GET, CONTAINS, WAS, SIZE, RANK, KEY, SUM, COMMIT, ARM, RECOVER, DECAY, WORD, BLOCK, COUNT
    }

    final int answer;
    private final What what;
    private final int[] given;

    Call(Model m, What what, int... given) {
        this.what = what;
        this.given = given;
        answer = on(m);
    }

    private int on(Model m) {
        switch (what) {
            case FORMAT:
                m.format();
                return 0;
            case PUT:
                return m.put(given[0], given[1]);
            case REMOVE:
                return m.remove(given[0]);
            case GET:
                return m.get(given[0]);
            case CONTAINS:
                return m.contains(given[0]) ? 1 : 0;
            case WAS:
                return m.was(given[0]);
            case SIZE:
                return m.size();
            case RANK:
                return m.rank(given[0]);
            case KEY:
                return m.key(given[0]);
            case SUM:
                return m.sum(given[0], given[1]);
            case COMMIT:
                return m.commit();
            case ARM:
                m.arm(given[0], given[1]);
                return 0;
            case RECOVER:
                return m.recover();
            case DECAY:
                return m.decay(given[0], given[1], given[2]) ? 1 : 0;
            case WORD:
                return m.word(given[0], given[1]);
            case BLOCK:
                return m.block(given[0]);
            default:
                return m.count(given[0]);
        }
    }

    int on(TwinRoots x) {
        switch (what) {
            case FORMAT:
                x.format();
                return 0;
            case PUT:
                return x.put(given[0], given[1]);
            case REMOVE:
                return x.remove(given[0]);
            case GET:
                return x.get(given[0]);
            case CONTAINS:
                return x.contains(given[0]) ? 1 : 0;
            case WAS:
                return x.was(given[0]);
            case SIZE:
                return x.size();
            case RANK:
                return x.rank(given[0]);
            case KEY:
                return x.key(given[0]);
            case SUM:
                return x.sum(given[0], given[1]);
            case COMMIT:
                return x.commit();
            case ARM:
                x.arm(given[0], given[1]);
                return 0;
            case RECOVER:
                return x.recover();
            case DECAY:
                return x.decay(given[0], given[1], given[2]) ? 1 : 0;
            case WORD:
                return x.word(given[0], given[1]);
            case BLOCK:
                return x.block(given[0]);
            default:
                return x.count(given[0]);
        }
    }

    @Override
    public String toString() {
        return what.name().toLowerCase() + Arrays.toString(given);
    }
}
