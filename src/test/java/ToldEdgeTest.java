/** Promises 9 to 17: each sentence that names an edge or a refusal, with a test of its own. */
public final class ToldEdgeTest {
    private static final int[] FAR = {Check.MIN, Check.MIN + 1, Check.MAX - 1, Check.MAX};

    /** There is no such STAMP, whatever the other number is. */
    private static void unknown(Call call, String where, int... others) {
        Check.sentence(where, "UNKNOWN");
        Run x = States.ladder();
        x.happen(1);
        Run noMore = States.quarters();
        noMore.image(0);
        noMore.peek(0);
        noMore.join(1, 0);
        for (int other : others) {
            for (int s : Check.NEVER_A_STAMP) {
                Check.refused(x, call, s, other, Check.UNKNOWN);
            }
            for (int s = 7; s < 12; s++) {
                Check.refused(x, call, s, other, Check.UNKNOWN);
            }
            Check.refused(noMore, call, 0, other, Check.UNKNOWN);
        }
        noMore.restore(0);
        Check.refused(noMore, call, 4, others[0], Check.UNKNOWN);
    }

    private static void orderUnknown() {
        Check.sentence("Promise 9", "UNKNOWN: both.");
        Run x = States.ladder();
        x.happen(1);
        for (int s : Check.NEVER_A_STAMP) {
            Check.refused(x, Call.ORDER, s, 1, Check.UNKNOWN);
            Check.refused(x, Call.ORDER, 1, s, Check.UNKNOWN);
            Check.refused(x, Call.ORDER, s, s, Check.UNKNOWN);
        }
        for (int s = 7; s < 12; s++) {
            Check.refused(x, Call.ORDER, s, 0, Check.UNKNOWN);
            Check.refused(x, Call.ORDER, 0, s, Check.UNKNOWN);
            Check.refused(x, Call.ORDER, s, s, Check.UNKNOWN);
        }
    }

    private static void orderTells() {
        Check.sentence("Promise 9", "0 they are EVEN, 1 s is BEFORE t, 2 t is BEFORE s, 3 none of these.");
        Run x = States.crowded();
        for (int s = 0; s < 12; s++) {
            Check.told(x, Call.ORDER, s, s, 0);
            Check.told(x, Call.ORDER, s, 11 - s, 0);
        }
        x.happen(0);
        x.happen(6);
        Check.told(x, Call.ORDER, 0, 11, 2);
        Check.told(x, Call.ORDER, 11, 0, 1);
        Check.told(x, Call.ORDER, 0, 6, 3);
        Check.told(x, Call.ORDER, 6, 0, 3);
        Check.told(x, Call.ORDER, 0, 0, 0);
    }

    private static void knowsWhether() {
        Check.sentence("Promise 10", "Whether a STAMP KNOWS a HAPPENING (1, 0);");
        Run x = States.after60();
        for (int e = 0; e < 60; e++) {
            Check.due(x, Call.KNOWS, 0, e, 1 - e % 2);
            Check.due(x, Call.KNOWS, 1, e, e % 2);
            Check.due(x, Call.KNOWS, 2, e, 0);
        }
        Run last = States.halves();
        for (int e = 0; e < 59; e++) {
            last.happen(0);
        }
        last.happen(1);
        Check.due("known of 1: the last one alone", "59", last.known(1));
        Check.told(last, Call.KNOWS, 0, 59, 0);
        Check.told(last, Call.KNOWS, 0, 58, 1);
        Check.told(last, Call.KNOWS, 1, 27, 0);
    }

    private static void knowsHowMany() {
        Check.sentence("Promise 10", "e = -1: how many it KNOWS.");
        Run x = new Run();
        Check.told(x, Call.KNOWS, 0, -1, 0);
        for (int e = 0; e < 60; e++) {
            x.happen(0);
            Check.due(x, Call.KNOWS, 0, -1, e + 1);
        }
        Run y = States.after60();
        Check.told(y, Call.KNOWS, 0, -1, 30);
        Check.told(y, Call.KNOWS, 2, -1, 0);
        y.hear(2, 0);
        Check.told(y, Call.KNOWS, 2, -1, 30);
        y.hear(2, 1);
        Check.told(y, Call.KNOWS, 2, -1, 60);
    }

    private static void knowsOutside() {
        Check.sentence("Promise 10", "OUTSIDE: there was no such HAPPENING.");
        Run x = States.halves();
        x.image(0);
        Check.refused(x, Call.KNOWS, 0, 0, Check.OUTSIDE);
        x.happen(0);
        Check.told(x, Call.KNOWS, 0, 0, 1);
        Check.told(x, Call.KNOWS, 1, 0, 0);
        for (int e : new int[] {-2, -3, -64, -63, 1, 32, 60, 63, 64, 65}) {
            Check.refused(x, Call.KNOWS, 0, e, Check.OUTSIDE);
        }
        for (int e : FAR) {
            Check.refused(x, Call.KNOWS, 0, e, Check.OUTSIDE);
            Check.refused(x, Call.KNOWS, 1, e, Check.OUTSIDE);
        }
        x.restore(0);
        Check.refused(x, Call.KNOWS, 0, 0, Check.OUTSIDE);
        Run y = States.after60();
        for (int e : new int[] {60, 61, 63, 64, -2, Check.MIN, Check.MAX}) {
            Check.refused(y, Call.KNOWS, 0, e, Check.OUTSIDE);
        }
    }

    private static void heightTells() {
        Check.sentence("Promise 11", "The HEIGHT of a STAMP at a CELL.");
        Line line = new Line("a1:3 b62:0 a1:4");
        int a = line.number('a');
        Check.told(line.run, Call.HEIGHT, a, 0, 3);
        Check.told(line.run, Call.HEIGHT, a, 1, 0);
        Check.told(line.run, Call.HEIGHT, a, 62, 0);
        Check.told(line.run, Call.HEIGHT, a, 63, 4);
        Run x = new Run();
        for (int e = 0; e < 60; e++) {
            x.happen(0);
        }
        x.peek(0);
        Check.told(x, Call.HEIGHT, 1, 63, 60);
    }

    /** A number that is none of a call's own, and the nearest that are. */
    private static void outside(Run x, Call call, int s, int least, int most) {
        for (int number : new int[] {least - 1, least - 2, most + 1, most + 2, most + 32, most + 64, -32, -64}) {
            Check.refused(x, call, s, number, Check.OUTSIDE);
        }
        for (int number : FAR) {
            Check.refused(x, call, s, number, Check.OUTSIDE);
        }
    }

    /** The same for a call that takes that number alone. */
    private static void outside(Run x, Call call, int least, int most) {
        for (int number : new int[] {least - 1, least - 2, most + 1, most + 2, most + 32, most + 64, -32, -64}) {
            Check.refused(x, call, number, Check.OUTSIDE);
        }
        for (int number : FAR) {
            Check.refused(x, call, number, Check.OUTSIDE);
        }
    }

    private static void heightOutside() {
        Check.sentence("Promise 11", "UNKNOWN; OUTSIDE.");
        Run x = States.halves();
        x.happen(1);
        outside(x, Call.HEIGHT, 1, 0, 63);
        outside(x, Call.HEIGHT, 0, 0, 63);
    }

    private static void ownerTells() {
        Check.sentence("Promise 12", "Whose NAME has a CELL;");
        Line line = new Line("a1:0 b62:0 c1:0");
        Check.told(line.run, Call.OWNER, 0, line.number('a'));
        Check.told(line.run, Call.OWNER, 1, line.number('b'));
        Check.told(line.run, Call.OWNER, 62, line.number('b'));
        Check.told(line.run, Call.OWNER, 63, line.number('c'));
        Run x = new Run();
        for (int i = 1; i <= 11; i++) {
            x.peek(0);
        }
        x.join(11, 0);
        Check.due("owners", "64:11", x.owners());
    }

    /** No call lets go of a CELL, so that nobody's CELL can't be come to. */
    private static void ownerNone() {
        Check.sentence("Promise 12", "NONE: nobody's.");
        Run x = States.quarters();
        x.image(0);
        x.peek(1);
        x.drop(4);
        x.join(3, 0);
        x.share(2, 3);
        x.drop(2);
        x.fork(3);
        x.restore(1);
        Run y = x.again();
        y.restore(0);
        for (int cell = 0; cell < 64; cell++) {
            Check.due("owner(" + cell + ") is somebody", 1, x.owner(cell) >= 0 ? 1 : 0);
            Check.due("owner(" + cell + ") is somebody", 1, y.owner(cell) >= 0 ? 1 : 0);
        }
        Check.due("owners", "16:0 16:2 16:1 16:3", y.owners());
    }

    private static void ownerOutside() {
        Check.sentence("Promise 12", "OUTSIDE.");
        outside(new Run(), Call.OWNER, 0, 63);
        outside(States.crowded(), Call.OWNER, 0, 63);
    }

    private static void nameTells() {
        Check.sentence("Promise 13", "The k-th number of the TREE of the NAME of a STAMP, from 0 on; k = -1: how many "
            + "there are;");
        Run x = States.ladder();
        x.peek(0);
        int[] sizes = {13, 3, 5, 7, 9, 11, 13, 1};
        for (int s = 0; s < sizes.length; s++) {
            Check.told(x, Call.NAME, s, -1, sizes[s]);
        }
        Check.told(x, Call.NAME, 0, 0, 2);
        Check.told(x, Call.NAME, 0, 6, 1);
        Check.told(x, Call.NAME, 0, 12, 0);
        Check.told(x, Call.NAME, 7, 0, 0);
        Check.told(new Run(), Call.NAME, 0, 0, 1);
        Line combs = States.combs();
        int a = combs.number('a');
        Check.due("name(a, -1): the most numbers", 127, combs.run.name(a, -1));
        Check.due("name(a, 126)", 0, combs.run.name(a, 126));
        Check.due("name(a, 125)", 1, combs.run.name(a, 125));
        Check.due("name(b, 126)", 1, combs.run.name(combs.number('b'), 126));
        Check.due("name(a, 127)", Check.NONE, combs.run.name(a, 127));
    }

    private static void nameNone() {
        Check.sentence("Promise 13", "NONE: there is none such.");
        Run x = States.halves();
        x.peek(0);
        for (int k : new int[] {3, 4, 126, 127, 128, 189, 190, 191, 1 << 16, Check.MAX - 1, Check.MAX}) {
            Check.told(x, Call.NAME, 0, k, Check.NONE);
        }
        Check.told(x, Call.NAME, 2, 1, Check.NONE);
        Check.told(x, Call.NAME, 2, Check.MAX, Check.NONE);
        Check.due("name(0, 2): the last one", 0, x.name(0, 2));
    }

    private static void treeTells() {
        Check.sentence("Promise 14", "The k-th number of the TREE of the HEIGHTS of a STAMP, likewise.");
        Run x = States.ladder();
        Check.told(x, Call.TREE, 0, -1, 1);
        Check.told(x, Call.TREE, 0, 0, 0);
        x.happen(0);
        Check.told(x, Call.TREE, 0, -1, 19);
        Check.told(x, Call.TREE, 0, 0, 1000);
        Check.told(x, Call.TREE, 0, 12, 1);
        Check.told(x, Call.TREE, 0, 18, 0);
        Check.told(x, Call.TREE, 1, -1, 1);
        Line combs = States.combs();
        int a = combs.number('a');
        Check.due("tree(a, -1): the most numbers", 190, combs.run.tree(a, -1));
        Check.due("tree(a, 189)", 0, combs.run.tree(a, 189));
        Check.due("tree(a, 188)", 1, combs.run.tree(a, 188));
        Check.due("tree(a, 186)", 1000, combs.run.tree(a, 186));
        Check.due("tree(a, 190)", Check.NONE, combs.run.tree(a, 190));
        Check.due("tree(a, 191)", Check.NONE, combs.run.tree(a, 191));
    }

    private static void treeNone() {
        Check.sentence("Promise 14", "likewise.");
        Run x = States.halves();
        for (int k : new int[] {1, 2, 126, 127, 128, 189, 190, 191, 1 << 16, Check.MAX - 1, Check.MAX}) {
            Check.told(x, Call.TREE, 0, k, Check.NONE);
        }
        x.happen(0);
        Check.due("tree(0, 3): the last one", 0, x.tree(0, 3));
        Check.told(x, Call.TREE, 0, 4, Check.NONE);
        Check.told(x, Call.TREE, 1, 1, Check.NONE);
    }

    private static void belowMinusOne(Call call, String where) {
        Check.sentence(where, "OUTSIDE: k is below -1.");
        Run x = States.halves();
        x.happen(0);
        x.peek(0);
        for (int k : new int[] {-2, -3, -32, -64, -128, Check.MIN + 1, Check.MIN}) {
            for (int s = 0; s < 3; s++) {
                Check.refused(x, call, s, k, Check.OUTSIDE);
            }
        }
    }

    private static void dueAbout(Run x, int s, int... want) {
        for (int what = 0; what < want.length; what++) {
            Check.told(x, Call.ABOUT, s, what, want[what]);
        }
    }

    private static void aboutTells() {
        Check.sentence("Promise 15", "0 how many CELLS its NAME has, 1 how many PIECES, 2 its greatest HEIGHT, 3 its "
            + "least HEIGHT, 4 the DEPTH of the least SPAN that has all of its NAME");
        dueAbout(new Run(), 0, 64, 1, 0, 0, 0);
        Line first = new Line("a1:3 b63:1");
        dueAbout(first.run, first.number('a'), 1, 1, 3, 1, 6);
        dueAbout(first.run, first.number('b'), 63, 6, 3, 1, 0);
        Line last = new Line("b63:1 a1:0");
        dueAbout(last.run, last.number('a'), 1, 1, 1, 0, 6);
        dueAbout(last.run, last.number('b'), 63, 6, 1, 0, 0);
        Line ends = new Line("a1:0 b62:0 a1:5");
        dueAbout(ends.run, ends.number('a'), 2, 2, 5, 0, 0);
        dueAbout(ends.run, ends.number('b'), 62, 10, 5, 0, 0);
        for (int cell = 1; cell < 63; cell++) {
            Line high = new Line("b" + cell + ":1 a1:2 b" + (63 - cell) + ":1");
            dueAbout(high.run, high.number('a'), 1, 1, 2, 1, 6);
            Line low = new Line("b" + cell + ":1 a1:0 b" + (63 - cell) + ":1");
            dueAbout(low.run, low.number('a'), 1, 1, 1, 0, 6);
        }
        Line middle = new Line("b7:2 a2:1 b55:2");
        dueAbout(middle.run, middle.number('a'), 2, 2, 2, 1, 2);
        Run most = new Run();
        for (int e = 0; e < 60; e++) {
            most.happen(0);
        }
        dueAbout(most, 0, 64, 1, 60, 60, 0);
    }

    private static void aboutNone() {
        Check.sentence("Promise 15", "(NONE: it is empty).");
        Run x = States.halves();
        x.happen(0);
        x.peek(0);
        dueAbout(x, 2, 0, 0, 1, 0, Check.NONE);
        x.share(2, 0);
        dueAbout(x, 2, 16, 1, 1, 0, 2);
    }

    private static void aboutOutside() {
        Check.sentence("Promise 15", "UNKNOWN; OUTSIDE.");
        Run x = States.halves();
        x.peek(0);
        outside(x, Call.ABOUT, 0, 0, 4);
        outside(x, Call.ABOUT, 2, 0, 4);
    }

    private static void dueGrowth(Run x, int s, int... want) {
        for (int what = 0; what < want.length; what++) {
            Check.told(x, Call.GROWTH, s, what, want[what]);
        }
    }

    private static void growthGrows() {
        Check.sentence("Promise 16", "1 it would FILL, 0 GROW (what = 0); how many HEIGHTS would become others (1); "
            + "if it would GROW: the COST (2), the first CELL of that PIECE (3), the DEPTH (4);");
        dueGrowth(new Run(), 0, 0, 64, 0, 0, 0);
        Run x = States.ladder();
        dueGrowth(x, 0, 0, 1, 6006, 0, 6);
        dueGrowth(x, 1, 0, 32, 1001, 32, 1);
        Line last = new Line("b63:0 a1:1");
        dueGrowth(last.run, last.number('a'), 0, 1, 6, 63, 6);
        Line line = new Line("a1:0 b1:0 ".repeat(32).trim());
        dueGrowth(line.run, line.number('a'), 0, 1, 6006, 62, 6);
        dueGrowth(line.run, line.number('b'), 0, 1, 6006, 63, 6);
    }

    private static void growthFills() {
        Check.sentence("Promise 16", "NONE, if it would FILL.");
        Run x = States.halves();
        x.happen(1);
        x.hear(0, 1);
        dueGrowth(x, 0, 1, 32, Check.NONE, Check.NONE, Check.NONE);
        x.happen(0);
        dueGrowth(x, 0, 0, 32, 1001, 0, 1);
        Line one = new Line("b62:1 a1:0 b1:1");
        dueGrowth(one.run, one.number('a'), 1, 1, Check.NONE, Check.NONE, Check.NONE);
        Line most = new Line("a63:0 a1:1");
        dueGrowth(most.run, most.number('a'), 1, 63, Check.NONE, Check.NONE, Check.NONE);
        dueGrowth(x, 1, 0, 32, 1, 32, 1);
    }

    /** The document names no FULL for it: it tells what a HAPPENING would do, whether or not one may come. */
    private static void growthAfter60() {
        Check.sentence("Promise 16", "A HAPPENING at a STAMP, if it came now:");
        Run x = States.after60();
        dueGrowth(x, 0, 0, 32, 1, 0, 1);
        x.hear(0, 1);
        dueGrowth(x, 0, 0, 32, 1001, 0, 1);
        Run filling = States.halves();
        for (int e = 0; e < 60; e++) {
            filling.happen(1);
        }
        filling.hear(0, 1);
        dueGrowth(filling, 0, 1, 32, Check.NONE, Check.NONE, Check.NONE);
    }

    private static void growthOutside() {
        Check.sentence("Promise 16", "UNKNOWN; OUTSIDE;");
        Run x = States.halves();
        x.happen(0);
        x.peek(0);
        for (int s = 0; s < 3; s++) {
            outside(x, Call.GROWTH, s, 0, 4);
        }
    }

    private static void growthEmpty() {
        Check.sentence("Promise 16", "STATE: the NAME is empty.");
        Run x = States.halves();
        x.happen(0);
        x.peek(0);
        for (int what = 0; what <= 4; what++) {
            Check.refused(x, Call.GROWTH, 2, what, Check.STATE);
        }
        Run y = States.after60();
        Check.refused(y, Call.GROWTH, 2, 0, Check.STATE);
    }

    private static void unlikeEven() {
        Check.sentence("Promise 17", "How many STAMPS there are of which no two are EVEN, at the most (what = 0);");
        Check.told(new Run(), Call.UNLIKE, 0, 1);
        Run x = States.crowded();
        Check.told(x, Call.UNLIKE, 0, 1);
        x.happen(0);
        Check.told(x, Call.UNLIKE, 0, 2);
        x.happen(6);
        Check.told(x, Call.UNLIKE, 0, 3);
        x.hear(11, 0);
        Check.told(x, Call.UNLIKE, 0, 3);
        Run all = new Run();
        for (int i = 1; i <= 11; i++) {
            all.peek(0);
            all.happen(0);
        }
        Check.told(all, Call.UNLIKE, 0, 12);
        all.drop(11);
        Check.told(all, Call.UNLIKE, 0, 11);
        all.hear(1, 0);
        Check.told(all, Call.UNLIKE, 0, 10);
        Run gone = new Run();
        gone.peek(0);
        gone.join(1, 0);
        Check.due("who went was EVEN", 1, gone.unlike(0));
        gone.peek(1);
        gone.happen(1);
        gone.drop(0);
        gone.peek(1);
        gone.drop(0);
        Check.told(gone, Call.UNLIKE, 0, 1);
        Run near = States.halves();
        near.happen(0);
        near.happen(1);
        near.peek(0);
        near.peek(1);
        Check.told(near, Call.UNLIKE, 0, 2);
    }

    private static void unlikeNames() {
        Check.sentence("Promise 17", "how many unlike NAMES STAMPS have (1);");
        Run x = new Run();
        Check.told(x, Call.UNLIKE, 1, 1);
        x.peek(0);
        Check.told(x, Call.UNLIKE, 1, 2);
        x.peek(0);
        Check.told(x, Call.UNLIKE, 1, 2);
        x.fork(0);
        Check.told(x, Call.UNLIKE, 1, 3);
        Check.told(States.crowded(), Call.UNLIKE, 1, 8);
        Run forked = States.ladder();
        for (int i = 0; i < 5; i++) {
            forked.fork(1);
        }
        Check.told(forked, Call.UNLIKE, 1, 12);
        Run emptyFirst = new Run();
        emptyFirst.peek(0);
        emptyFirst.join(1, 0);
        emptyFirst.peek(1);
        emptyFirst.peek(1);
        Check.due("0 has an empty NAME", 0, emptyFirst.about(0, 0));
        Check.told(emptyFirst, Call.UNLIKE, 1, 2);
        emptyFirst.drop(0);
        Check.told(emptyFirst, Call.UNLIKE, 1, 2);
        emptyFirst.drop(2);
        Check.told(emptyFirst, Call.UNLIKE, 1, 1);
    }

    private static void unlikeBeforeNone() {
        Check.sentence("Promise 17", "how many STAMPS are BEFORE none (2).");
        Check.told(new Run(), Call.UNLIKE, 2, 1);
        Run x = States.crowded();
        Check.told(x, Call.UNLIKE, 2, 12);
        x.happen(5);
        Check.told(x, Call.UNLIKE, 2, 1);
        x.happen(1);
        Check.told(x, Call.UNLIKE, 2, 2);
        x.hear(11, 5);
        Check.told(x, Call.UNLIKE, 2, 3);
        x.hear(0, 11);
        x.hear(0, 1);
        Check.told(x, Call.UNLIKE, 2, 1);
        for (int last = 0; last < 12; last++) {
            Run one = States.crowded();
            one.happen(0);
            one.happen(1);
            one.happen(6);
            for (int s : new int[] {0, 1, 6}) {
                one.make(Call.HEAR, last, s);
            }
            Check.told(one, Call.UNLIKE, 2, 1);
        }
        Run gone = States.halves();
        gone.peek(0);
        gone.happen(0);
        gone.hear(2, 0);
        gone.drop(2);
        gone.join(1, 0);
        Check.told(gone, Call.UNLIKE, 2, 1);
        gone.peek(1);
        Check.told(gone, Call.UNLIKE, 2, 2);
        Run after = States.halves();
        after.peek(0);
        after.happen(0);
        after.happen(1);
        after.hear(2, 0);
        after.hear(2, 1);
        Check.told(after, Call.UNLIKE, 2, 1);
        after.drop(2);
        Check.due("who went was after both", 2, after.unlike(2));
    }

    private static void unlikeOutside() {
        Check.sentence("Promise 17", "OUTSIDE.");
        outside(new Run(), Call.UNLIKE, 0, 2);
        outside(States.crowded(), Call.UNLIKE, 0, 2);
    }

    public static void main(String[] args) {
        orderUnknown();
        orderTells();
        unknown(Call.KNOWS, "Promise 10", 0, -1, -2);
        knowsWhether();
        knowsHowMany();
        knowsOutside();
        unknown(Call.HEIGHT, "Promise 11", 0, 64, -1);
        heightTells();
        heightOutside();
        ownerTells();
        ownerNone();
        ownerOutside();
        unknown(Call.NAME, "Promise 13", 0, -1, -2);
        nameTells();
        nameNone();
        belowMinusOne(Call.NAME, "Promise 13");
        unknown(Call.TREE, "Promise 14", 0, -1, -2);
        treeTells();
        treeNone();
        belowMinusOne(Call.TREE, "Promise 14");
        unknown(Call.ABOUT, "Promise 15", 4, 5, -1);
        aboutTells();
        aboutNone();
        aboutOutside();
        unknown(Call.GROWTH, "Promise 16", 0, 5, -1);
        growthGrows();
        growthFills();
        growthAfter60();
        growthOutside();
        growthEmpty();
        unlikeEven();
        unlikeNames();
        unlikeBeforeNone();
        unlikeOutside();
        Check.end();
    }
}
