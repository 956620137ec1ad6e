import java.util.ArrayList;
import java.util.List;

/** All that can be seen of an object, to compare what was before a call with what is behind it. */
final class State {
    private final List<String> names = new ArrayList<>();
    private final List<Integer> answers = new ArrayList<>();

    private State() {
    }

    private void add(String name, int answer) {
        names.add(name);
        answers.add(answer);
    }

    /** The disk, and how many WRITES there were. */
    static State ofDisk(TwinRoots x) {
        State s = new State();
        int blocks = x.count(0);
        int words = x.count(1);
        s.add("count(2)", x.count(2));
        for (int b = 0; b < blocks; b++) {
            for (int w = 0; w < words; w++) {
                s.add("word(" + b + ", " + w + ")", x.word(b, w));
            }
        }
        return s;
    }

    /** The disk, and both maps as far as these keys go. */
    static State of(TwinRoots x, int... keys) {
        State s = ofDisk(x);
        int blocks = x.count(0);
        for (int b = 0; b < blocks; b++) {
            s.add("block(" + b + ")", x.block(b));
        }
        for (int what = 3; what < 10; what++) {
            s.add("count(" + what + ")", x.count(what));
        }
        s.add("size()", x.size());
        for (int k : keys) {
            s.add("get(" + k + ")", x.get(k));
            s.add("contains(" + k + ")", x.contains(k) ? 1 : 0);
            s.add("was(" + k + ")", x.was(k));
        }
        return s;
    }

    void sameAs(Check check, String what, State before) {
        for (int i = 0; i < names.size(); i++) {
            check.due(what + ": " + names.get(i), answers.get(i), before.answers.get(i));
        }
    }
}
