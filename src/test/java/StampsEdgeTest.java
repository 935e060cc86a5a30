/** Promises 1 to 8: each sentence that names an edge or a refusal, with a test of its own. */
public final class StampsEdgeTest {
    private static final Call[] OF_ONE_STAMP = {Call.FORK, Call.PEEK, Call.HAPPEN, Call.DROP};
    private static final Call[] OF_TWO_STAMPS = {Call.HEAR, Call.JOIN, Call.SHARE};

    private static void newObject() {
        Check.sentence("Promise 1", "STAMP 0 alone; no HAPPENING, no IMAGE.");
        SpanStamps used = new SpanStamps();
        used.happen(0);
        used.fork(0);
        used.image(0);
        used.image(1);
        Run x = new Run();
        int[] due = {1, 1, 0, 0};
        for (int what = 0; what < due.length; what++) {
            Check.due(x, Call.COUNT, what, due[what]);
        }
        Check.refused(x, Call.KNOWS, 0, 0, Check.OUTSIDE);
        Check.refused(x, Call.RESTORE, 0, Check.STATE);
        Check.refused(x, Call.RESTORE, 1, Check.STATE);
        Check.due("the other object's HAPPENINGS", 1, used.count(2));
        Check.due("the other object's STAMPS", 2, used.count(0));
        Check.due("the other object's IMAGES", 3, used.count(3));
    }

    /** There is no such STAMP: never, not yet, no more, or no more since a restore. */
    private static void unknownOfOne(Call call, String where) {
        Check.sentence(where, "UNKNOWN");
        Run x = States.crowded();
        x.happen(1);
        for (int s : Check.NEVER_A_STAMP) {
            Check.refused(x, call, s, Check.UNKNOWN);
        }
        Run notYet = new Run();
        for (int s = 1; s < 12; s++) {
            Check.refused(notYet, call, s, Check.UNKNOWN);
        }
        Run noMore = States.quarters();
        noMore.image(0);
        noMore.peek(0);
        noMore.peek(0);
        noMore.drop(4);
        noMore.join(1, 0);
        Check.refused(noMore, call, 4, Check.UNKNOWN);
        Check.refused(noMore, call, 0, Check.UNKNOWN);
        noMore.restore(0);
        Check.refused(noMore, call, 5, Check.UNKNOWN);
    }

    private static void unknownOfTwo(Call call, String where) {
        Check.sentence(where, "UNKNOWN: both;");
        Run x = States.ladder();
        x.happen(1);
        for (int s : Check.NEVER_A_STAMP) {
            Check.refused(x, call, s, 1, Check.UNKNOWN);
            Check.refused(x, call, 1, s, Check.UNKNOWN);
            Check.refused(x, call, s, s, Check.UNKNOWN);
            Check.refused(x, call, s, 7, Check.UNKNOWN);
        }
        for (int s = 7; s < 12; s++) {
            Check.refused(x, call, s, 0, Check.UNKNOWN);
            Check.refused(x, call, 0, s, Check.UNKNOWN);
        }
        Run noMore = States.quarters();
        noMore.join(1, 0);
        Check.refused(noMore, call, 0, 1, Check.UNKNOWN);
        Check.refused(noMore, call, 1, 0, Check.UNKNOWN);
        Check.refused(noMore, call, 0, 0, Check.UNKNOWN);
    }

    private static void oneAndTheSame(Call call, String where) {
        Check.sentence(where, "OUTSIDE: they are one");
        Run x = States.crowded();
        x.happen(1);
        for (int s = 0; s < 12; s++) {
            Check.refused(x, call, s, s, Check.OUTSIDE);
        }
        Run alone = new Run();
        Check.refused(alone, call, 0, 0, Check.OUTSIDE);
    }

    private static void forkParts() {
        Check.sentence("Promise 2", "it has the part of the LOWER half then, a new STAMP that of the UPPER half, "
            + "the same HEIGHTS, and KNOWS the same: its number.");
        Run x = new Run();
        x.happen(0);
        Check.due(x, Call.FORK, 0, 1);
        Check.due("owners", "32:0 32:1", x.owners());
        x.happen(1);
        Check.due(x, Call.FORK, 1, 2);
        Check.due("owners", "32:0 16:1 16:2", x.owners());
        for (int s = 1; s <= 2; s++) {
            Check.due("heights of " + s, "32:1 32:2", x.heights(s));
            Check.due("known of " + s, "0 1", x.known(s));
        }
        Check.due("heights of 0", "64:1", x.heights(0));
        Check.due("known of 0", "0", x.known(0));
        x.happen(2);
        Check.due("heights of 1, when 2 went on", "32:1 32:2", x.heights(1));
        x.happen(1);
        Check.due("heights of 2, when 1 went on", "32:1 16:2 16:3", x.heights(2));
        Check.due("known of 2", "0 1 2", x.known(2));
        Check.due("known of 1", "0 1 3", x.known(1));
    }

    private static void forkTakesOver() {
        Check.sentence("Promise 2", "the same HEIGHTS, and KNOWS the same");
        Run x = States.halves();
        x.happen(1);
        x.peek(1);
        x.drop(2);
        x.fork(0);
        Check.due("heights of 2: nothing stays of who had the number", "64:0", x.heights(2));
        Check.due("known of 2: nothing stays of who had the number", "", x.known(2));
    }

    private static void forkEmpty() {
        Check.sentence("Promise 2", "STATE: the NAME is empty;");
        Run x = new Run();
        x.peek(0);
        Check.refused(x, Call.FORK, 1, Check.STATE);
        x.share(0, 1);
        Check.due(x, Call.FORK, 1, 2);
    }

    private static void forkOneCell() {
        Check.sentence("Promise 2", "NO: it is one CELL;");
        Run x = States.ladder();
        Check.refused(x, Call.FORK, 0, Check.NO);
        Check.refused(x, Call.FORK, 6, Check.NO);
        Check.due("fork(5) of two CELLS", 7, x.fork(5));
        Check.refused(x, Call.FORK, 5, Check.NO);
        Check.refused(x, Call.FORK, 7, Check.NO);
        for (int cell : new int[] {31, 32, 62, 63}) {
            String above = cell == 63 ? "" : " b" + (63 - cell) + ":0";
            Line line = new Line("b" + cell + ":0 a1:0" + above);
            Check.refused(line.run, Call.FORK, line.number('a'), Check.NO);
        }
    }

    private static void forkFull() {
        Check.sentence("Promise 2", "FULL: there are 12.");
        Run x = States.crowded();
        for (int s = 1; s <= 5; s++) {
            Check.refused(x, Call.FORK, s, Check.FULL);
        }
        x.drop(11);
        Check.due("fork(1) with 11", 11, x.fork(1));
        Check.refused(x, Call.FORK, 1, Check.FULL);
        x.join(0, 6);
        Check.due("fork(1) with 11", 6, x.fork(1));
    }

    private static void peekTells() {
        Check.sentence("Promise 3", "A new STAMP has an empty NAME, HEIGHTS as another one has, and KNOWS the same: "
            + "its number.");
        Run x = States.halves();
        x.happen(1);
        x.happen(0);
        Check.due(x, Call.PEEK, 1, 2);
        Check.due("heights of 2", "32:0 32:1", x.heights(2));
        Check.due("known of 2", "0", x.known(2));
        Check.due(x, Call.ABOUT, 2, 0, 0);
        Check.due("owners", "32:0 32:1", x.owners());
        Check.due("peek at an empty NAME", 3, x.peek(2));
        Check.due(x, Call.ABOUT, 3, 0, 0);
        Check.due("heights of 3", "32:0 32:1", x.heights(3));
        x.happen(1);
        x.hear(3, 0);
        Check.due("heights of 2, when 1 and 3 went on", "32:0 32:1", x.heights(2));
        Check.due("known of 2, when 1 and 3 went on", "0", x.known(2));
        x.drop(2);
        Check.due("peek at who knows less", 2, x.peek(0));
        Check.due("heights of 2: nothing stays of who had the number", "32:1 32:0", x.heights(2));
        Check.due("known of 2: nothing stays of who had the number", "1", x.known(2));
    }

    private static void peekFull() {
        Check.sentence("Promise 3", "FULL: there are 12.");
        Run x = States.crowded();
        for (int s = 0; s < 12; s++) {
            Check.refused(x, Call.PEEK, s, Check.FULL);
        }
        x.drop(7);
        Check.due("peek(0) with 11", 7, x.peek(0));
        Check.refused(x, Call.PEEK, 0, Check.FULL);
    }

    private static void happenTells() {
        Check.sentence("Promise 4", "A HAPPENING at a STAMP: its number.");
        Run x = States.halves();
        Check.due(x, Call.HAPPEN, 1, 0);
        Check.due(x, Call.HAPPEN, 0, 1);
        x.hear(0, 1);
        Check.due(x, Call.HAPPEN, 0, 2);
        x.join(1, 0);
        Check.due("happen(1): who goes takes no number along", 3, x.happen(1));
        Check.due("heights of 1", "64:2", x.heights(1));
    }

    private static void happenEmpty() {
        Check.sentence("Promise 4", "STATE: the NAME is empty;");
        Run x = States.halves();
        x.happen(0);
        x.peek(0);
        Check.refused(x, Call.HAPPEN, 2, Check.STATE);
        Run y = States.ladder();
        Check.due("happen(0) of one CELL", 0, y.happen(0));
    }

    private static void happenFull() {
        Check.sentence("Promise 4", "FULL: there were 60.");
        Run x = new Run();
        x.image(0);
        for (int e = 0; e < 60; e++) {
            Check.due(x, Call.HAPPEN, 0, e);
        }
        Check.refused(x, Call.HAPPEN, 0, Check.FULL);
        Check.due("heights of 0", "64:60", x.heights(0));
        Check.due(x, Call.KNOWS, 0, -1, 60);
        x.fork(0);
        Check.refused(x, Call.HAPPEN, 1, Check.FULL);
        x.restore(0);
        Check.due("happen(0): there were none then", 0, x.happen(0));
        Run filling = States.halves();
        for (int e = 0; e < 60; e++) {
            filling.happen(1);
        }
        filling.hear(0, 1);
        Check.due("growth(0, 0): it would FILL", 1, filling.growth(0, 0));
        Check.refused(filling, Call.HAPPEN, 0, Check.FULL);
    }

    private static void hearTells() {
        Check.sentence("Promise 5", "How many HEIGHTS became greater.");
        Run x = new Run();
        x.peek(0);
        Check.due("hear(1, 0): all are alike", 0, x.hear(1, 0));
        x.happen(0);
        Check.due("hear(0, 1): all are less", 0, x.hear(0, 1));
        Check.due("known of 0", "0", x.known(0));
        Check.due("hear(1, 0)", 64, x.hear(1, 0));
        x.happen(0);
        x.happen(0);
        Check.due("hear(1, 0): by two, counted once", 64, x.hear(1, 0));
        Check.due("hear(1, 0) again", 0, x.hear(1, 0));
        for (int cell : new int[] {0, 63}) {
            Line line = new Line(cell == 0 ? "a1:0 b63:0" : "b63:0 a1:0");
            line.run.happen(line.number('a'));
            Check.due("hear(b, a): CELL " + cell, 1, line.run.hear(line.number('b'), line.number('a')));
        }
    }

    private static void joinTells() {
        Check.sentence("Promise 6", "STAMP s HEARS STAMP t, which goes; s has the CELLS of both NAMES: how many STAMPS "
            + "there are.");
        Run x = States.quarters();
        x.happen(0);
        x.happen(3);
        Check.due("join(3, 0): the greater number stays", 3, x.join(3, 0));
        Check.due("owners", "16:3 16:2 16:1 16:3", x.owners());
        Check.due("heights of 3", "16:1 32:0 16:1", x.heights(3));
        Check.due("known of 3", "0 1", x.known(3));
        Check.due(x, Call.COUNT, 1, 14);
        Check.refused(x, Call.ORDER, 0, 3, Check.UNKNOWN);
        Check.due("join(1, 2)", 2, x.join(1, 2));
        Check.due("join(1, 3): the last but one goes", 1, x.join(1, 3));
        Check.due("owners", "64:1", x.owners());
        Check.due(x, Call.COUNT, 1, 2);
        Check.due(x, Call.COUNT, 2, 2);
    }

    private static void joinEmpty() {
        Check.sentence("Promise 6", "s has the CELLS of both NAMES");
        Run x = States.halves();
        x.peek(0);
        x.peek(0);
        x.happen(0);
        Check.due("join(2, 3): both are empty", 3, x.join(2, 3));
        Check.due(x, Call.ABOUT, 2, 0, 0);
        Check.due("join(2, 0): the one that stays is empty", 2, x.join(2, 0));
        Check.due("owners", "32:2 32:1", x.owners());
        Check.due("heights of 2", "32:1 32:0", x.heights(2));
        x.peek(1);
        Check.due("join(1, 0): the one that goes is empty", 2, x.join(1, 0));
        Check.due("owners", "32:2 32:1", x.owners());
    }

    private static void joinWith12() {
        Check.sentence("Promise 6", "how many STAMPS there are.");
        Run x = States.crowded();
        for (int left = 11; left >= 1; left--) {
            Check.due(x, Call.JOIN, 0, left, left);
        }
        Check.due("owners", "64:0", x.owners());
    }

    private static void shareTells() {
        Check.sentence("Promise 7", "Both HEAR one another; the CELLS of both NAMES together are FORKED anew: s has "
            + "the part of the LOWER half: how many CELLS s has.");
        Run x = States.quarters();
        x.happen(0);
        x.happen(3);
        Check.due("share(3, 0)", 16, x.share(3, 0));
        Check.due("owners", "16:3 16:2 16:1 16:0", x.owners());
        for (int s = 0; s <= 3; s += 3) {
            Check.due("heights of " + s, "16:1 32:0 16:1", x.heights(s));
            Check.due("known of " + s, "0 1", x.known(s));
        }
        Check.due("share(0, 3)", 16, x.share(0, 3));
        Check.due("owners", "16:0 16:2 16:1 16:3", x.owners());
        Check.due("share(0, 2): 0 to 31", 16, x.share(0, 2));
        Check.due(x, Call.COUNT, 0, 4);
        Line line = new Line("a1:0 b40:0 a23:0");
        int a = line.number('a');
        int b = line.number('b');
        Check.due("share(b, a): all 64", 32, line.run.share(b, a));
        Check.due("owners", "32:" + b + " 32:" + a, line.run.owners());
        Line three = new Line("a2:0 b1:0 c61:0");
        Check.due("share(b, a): 0, 1 and 2", 2, three.run.share(three.number('b'), three.number('a')));
        Check.due("share(a, b): 0, 1 and 2", 2, three.run.share(three.number('a'), three.number('b')));
    }

    private static void shareOneEmpty() {
        Check.sentence("Promise 7", "the CELLS of both NAMES together are FORKED anew");
        Run x = new Run();
        x.peek(0);
        x.happen(0);
        Check.due("share(1, 0): s is empty", 32, x.share(1, 0));
        Check.due("owners", "32:1 32:0", x.owners());
        Check.due("heights of 1", "64:1", x.heights(1));
        x.peek(0);
        Check.due("share(0, 2): t is empty", 16, x.share(0, 2));
        Check.due("owners", "32:1 16:0 16:2", x.owners());
        Run full = States.crowded();
        Check.due("share(1, 11) with 12", 16, full.share(1, 11));
        Check.due(full, Call.COUNT, 0, 12);
    }

    private static void shareBothEmpty() {
        Check.sentence("Promise 7", "STATE: both NAMES are empty;");
        Run x = States.halves();
        x.peek(0);
        x.happen(0);
        x.peek(0);
        Check.refused(x, Call.SHARE, 2, 3, Check.STATE);
        Check.refused(x, Call.SHARE, 3, 2, Check.STATE);
        Check.due(x, Call.ORDER, 2, 3, 1);
        Check.due("share(3, 0): one is not", 16, x.share(3, 0));
    }

    private static void shareOneCell() {
        Check.sentence("Promise 7", "NO: both together have one CELL only.");
        Run x = States.ladder();
        x.happen(0);
        x.peek(1);
        Check.refused(x, Call.SHARE, 0, 7, Check.NO);
        Check.refused(x, Call.SHARE, 7, 0, Check.NO);
        Check.refused(x, Call.SHARE, 7, 6, Check.NO);
        Check.due("share(6, 0): two CELLS", 1, x.share(6, 0));
        Check.due("owner(0)", 6, x.owner(0));
        Check.due("owner(1)", 0, x.owner(1));
        Check.due("share(7, 5): two CELLS of one", 1, x.share(7, 5));
        Line ends = new Line("a1:0 c62:0 b1:0");
        int b = ends.number('b');
        Check.due("share(b, a): 0 and 63", 1, ends.run.share(b, ends.number('a')));
        Check.due("owner(0)", b, ends.run.owner(0));
        Line last = new Line("b63:0 a1:0");
        int empty = last.run.peek(last.number('b'));
        Check.refused(last.run, Call.SHARE, last.number('a'), empty, Check.NO);
    }

    private static void dropTells() {
        Check.sentence("Promise 8", "A STAMP that has an empty NAME goes: how many there are.");
        Run x = new Run();
        for (int i = 1; i <= 11; i++) {
            x.peek(0);
        }
        for (int s = 11; s >= 1; s--) {
            Check.due(x, Call.DROP, s, s);
        }
        Check.due(x, Call.COUNT, 1, 1);
        Run y = new Run();
        y.peek(0);
        y.peek(0);
        y.join(1, 0);
        y.peek(1);
        Check.due("drop(0)", 2, y.drop(0));
        Check.due(y, Call.COUNT, 1, 6);
        Check.refused(y, Call.DROP, 0, Check.UNKNOWN);
    }

    private static void dropOthers() {
        Check.sentence("Promise 8", "NO: its NAME is not empty.");
        Run x = new Run();
        Check.refused(x, Call.DROP, 0, Check.NO);
        Run y = States.ladder();
        for (int s = 0; s <= 6; s++) {
            Check.refused(y, Call.DROP, s, Check.NO);
        }
        Run z = States.halves();
        z.peek(0);
        z.share(2, 0);
        Check.refused(z, Call.DROP, 2, Check.NO);
        Line last = new Line("b63:0 a1:0");
        Check.refused(last.run, Call.DROP, last.number('a'), Check.NO);
    }

    public static void main(String[] args) {
        newObject();
        int[] promises = {2, 3, 4, 8};
        for (int i = 0; i < promises.length; i++) {
            unknownOfOne(OF_ONE_STAMP[i], "Promise " + promises[i]);
        }
        for (int i = 0; i < OF_TWO_STAMPS.length; i++) {
            unknownOfTwo(OF_TWO_STAMPS[i], "Promise " + (5 + i));
            oneAndTheSame(OF_TWO_STAMPS[i], "Promise " + (5 + i));
        }
        forkParts();
        forkTakesOver();
        forkEmpty();
        forkOneCell();
        forkFull();
        peekTells();
        peekFull();
        happenTells();
        happenEmpty();
        happenFull();
        hearTells();
        joinTells();
        joinEmpty();
        joinWith12();
        shareTells();
        shareOneEmpty();
        shareBothEmpty();
        shareOneCell();
        dropTells();
        dropOthers();
        Check.end();
    }
}
