import java.util.ArrayList;
import java.util.List;

/**
 * A run of calls on a new object. The calls are kept, so that they can be made again on another object:
 * much can be asked of a state without using one object for more calls than the document allows.
 */
final class Run {
    static final int MOST_CALLS = 512;
    static final int STAMPS = 12;
    static final int CELLS = 64;

    private record Made(Call call, int a, int b) {
    }

    private final SpanStamps object = new SpanStamps();
    private final List<Made> made = new ArrayList<>();
    private String told = null;

    int make(Call call, int a, int b) {
        if (made.size() >= MOST_CALLS) {
            throw new IllegalStateException("the test uses one object for more than " + MOST_CALLS + " calls");
        }
        made.add(new Made(call, a, b));
        told = null;
        return call.on(object, a, b);
    }

    /** The same calls on a new object. */
    Run again() {
        Run copy = new Run();
        for (Made one : made) {
            copy.make(one.call, one.a, one.b);
        }
        return copy;
    }

    int calls() {
        return made.size();
    }

    int fork(int s) {
        return make(Call.FORK, s, 0);
    }

    int peek(int s) {
        return make(Call.PEEK, s, 0);
    }

    int happen(int s) {
        return make(Call.HAPPEN, s, 0);
    }

    int hear(int s, int t) {
        return make(Call.HEAR, s, t);
    }

    int join(int s, int t) {
        return make(Call.JOIN, s, t);
    }

    int share(int s, int t) {
        return make(Call.SHARE, s, t);
    }

    int drop(int s) {
        return make(Call.DROP, s, 0);
    }

    int order(int s, int t) {
        return make(Call.ORDER, s, t);
    }

    int knows(int s, int e) {
        return make(Call.KNOWS, s, e);
    }

    int height(int s, int cell) {
        return make(Call.HEIGHT, s, cell);
    }

    int owner(int cell) {
        return make(Call.OWNER, cell, 0);
    }

    int name(int s, int k) {
        return make(Call.NAME, s, k);
    }

    int tree(int s, int k) {
        return make(Call.TREE, s, k);
    }

    int about(int s, int what) {
        return make(Call.ABOUT, s, what);
    }

    int growth(int s, int what) {
        return make(Call.GROWTH, s, what);
    }

    int unlike(int what) {
        return make(Call.UNLIKE, what, 0);
    }

    int image(int k) {
        return make(Call.IMAGE, k, 0);
    }

    int restore(int k) {
        return make(Call.RESTORE, k, 0);
    }

    int count(int what) {
        return make(Call.COUNT, what, 0);
    }

    // What follows asks other objects, and leaves this run as it is.

    /** The HEIGHTS of a STAMP from CELL 0 on, as "32:1 32:0": 32 CELLS with 1, then 32 with 0. */
    String heights(int s) {
        return lengths(Call.HEIGHT, s);
    }

    /** Whose CELLS are, from CELL 0 on, as "32:0 32:1". */
    String owners() {
        return lengths(Call.OWNER, 0);
    }

    private String lengths(Call call, int s) {
        Run other = again();
        List<Integer> answers = new ArrayList<>();
        for (int cell = 0; cell < CELLS; cell++) {
            answers.add(call == Call.OWNER ? other.owner(cell) : other.make(call, s, cell));
        }
        StringBuilder text = new StringBuilder();
        int from = 0;
        for (int cell = 1; cell <= CELLS; cell++) {
            if (cell == CELLS || !answers.get(cell).equals(answers.get(from))) {
                text.append(from == 0 ? "" : " ").append(cell - from).append(':').append(answers.get(from));
                from = cell;
            }
        }
        return text.toString();
    }

    String nameRow(int s) {
        return row(Call.NAME, s);
    }

    String treeRow(int s) {
        return row(Call.TREE, s);
    }

    private String row(Call call, int s) {
        Run other = again();
        StringBuilder text = new StringBuilder();
        int size = other.make(call, s, -1);
        for (int k = 0; k < size; k++) {
            text.append(k == 0 ? "" : " ").append(other.make(call, s, k));
        }
        return text.toString();
    }

    /** The HAPPENINGS that a STAMP KNOWS, as "0 2 5". */
    String known(int s) {
        Run other = again();
        StringBuilder text = new StringBuilder();
        int happenings = other.count(2);
        for (int e = 0; e < happenings; e++) {
            int answer = other.knows(s, e);
            if (answer != 0) {
                text.append(text.length() == 0 ? "" : " ").append(answer == 1 ? e : answer + "!");
            }
        }
        return text.toString();
    }

    /** Everything that can be asked, also of what the IMAGES keep, so that two states can be told apart. */
    String all() {
        if (told == null) {
            StringBuilder text = new StringBuilder(now());
            for (int k = 0; k < 2; k++) {
                Run back = again();
                int answer = back.restore(k);
                text.append("image ").append(k).append(": ").append(answer).append('\n');
                text.append(answer == 1 ? back.now() : "");
            }
            told = text.toString();
        }
        return told;
    }

    private String now() {
        Run other = again();
        StringBuilder text = new StringBuilder("count");
        for (int what = 0; what < 4; what++) {
            text.append(' ').append(other.count(what));
        }
        text.append(", unlike");
        for (int what = 0; what < 3; what++) {
            text.append(' ').append(other.unlike(what));
        }
        text.append(", owners ").append(owners()).append('\n');
        for (int s = 0; s < STAMPS; s++) {
            text.append("stamp ").append(s).append(": ").append(stamp(s)).append('\n');
        }
        return text.toString();
    }

    private String stamp(int s) {
        Run other = again();
        if (other.about(s, 0) < 0) {
            return "none";
        }
        StringBuilder text = new StringBuilder("order");
        for (int t = 0; t < STAMPS; t++) {
            text.append(' ').append(other.order(s, t));
        }
        text.append(", about and growth");
        for (int what = 0; what < 5; what++) {
            text.append(' ').append(other.about(s, what)).append(' ').append(other.growth(s, what));
        }
        text.append(", knows ").append(known(s)).append(" in all ").append(other.knows(s, -1));
        text.append(", heights ").append(heights(s)).append(", tree ").append(treeRow(s));
        return text.append(", name ").append(nameRow(s)).toString();
    }
}
