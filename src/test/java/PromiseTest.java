/** For each promise of the document: ordinary inputs, the edges that it names, and wrong inputs. */
public final class PromiseTest {
    private static final int[] NEVER_A_STAMP = {-1, 12, 13, 63, 64, Integer.MIN_VALUE, Integer.MAX_VALUE};

    private static final int UNKNOWN = -1;
    private static final int OUTSIDE = -2;
    private static final int STATE = -3;
    private static final int FULL = -4;
    private static final int NO = -5;
    private static final int NONE = -6;

    private static int promise = 0;
    private static int wrong = 0;
    private static int asked = 0;

    private static void due(String call, int want, int got) {
        asked++;
        if (got != want) {
            wrong++;
            System.out.println("promise " + promise + ": " + call + " answered " + got + ", due is " + want);
        }
    }

    private static void dueText(String call, String want, String got) {
        asked++;
        if (!got.equals(want)) {
            wrong++;
            System.out.println("promise " + promise + ": " + call + " told\n" + got + "\ndue is\n" + want);
        }
    }

    private static void dueHeights(Run x, int s, int from, int to, int want) {
        Run other = x.again();
        for (int cell = from; cell <= to; cell++) {
            due("height(" + s + ", " + cell + ")", want, other.height(s, cell));
        }
    }

    private static void dueOwner(Run x, int from, int to, int want) {
        Run other = x.again();
        for (int cell = from; cell <= to; cell++) {
            due("owner(" + cell + ")", want, other.owner(cell));
        }
    }

    private static void newObject() {
        Run x = new Run();
        due("count(0)", 1, x.count(0));
        due("count(1)", 1, x.count(1));
        due("count(2)", 0, x.count(2));
        due("count(3)", 0, x.count(3));
        dueOwner(x, 0, 63, 0);
        dueHeights(x, 0, 0, 63, 0);
        due("knows(0, -1)", 0, x.knows(0, -1));
        due("restore(0)", STATE, x.restore(0));
        due("restore(1)", STATE, x.restore(1));
        String before = x.all();
        Run y = States.halves();
        y.happen(0);
        y.image(1);
        dueText("a new object", before, new Run().all());
    }

    private static void fork() {
        Run x = new Run();
        x.happen(0);
        due("fork(0)", 1, x.fork(0));
        dueOwner(x, 0, 31, 0);
        dueOwner(x, 32, 63, 1);
        dueHeights(x, 1, 0, 63, 1);
        dueHeights(x, 0, 0, 63, 1);
        due("knows(1, 0)", 1, x.knows(1, 0));
        due("knows(0, 0)", 1, x.knows(0, 0));
        due("fork(1)", 2, x.fork(1));
        dueOwner(x, 32, 47, 1);
        dueOwner(x, 48, 63, 2);
        x.happen(1);
        due("height(2, 32)", 1, x.height(2, 32));
        forkScattered();
        forkRefused();
    }

    private static void forkScattered() {
        Run x = States.ladder();
        due("fork(5)", 7, x.fork(5));
        due("join(6, 5)", 7, x.join(6, 5));
        due("about(6, 4): CELLS 1 and 2 lie in 0 to 3", 4, x.about(6, 4));
        due("fork(6)", 5, x.fork(6));
        due("owner(1)", 6, x.owner(1));
        due("owner(2)", 5, x.owner(2));
        Run y = States.quarters();
        y.join(0, 1);
        y.join(2, 3);
        due("fork(2)", 1, y.fork(2));
        dueOwner(y, 16, 31, 2);
        dueOwner(y, 48, 63, 1);
        due("fork(0)", 3, y.fork(0));
        dueOwner(y, 0, 15, 0);
        dueOwner(y, 32, 47, 3);
        Run z = States.quarters();
        z.join(0, 2);
        z.join(0, 1);
        due("fork(0) of 0 to 47", 1, z.fork(0));
        dueOwner(z, 0, 31, 0);
        dueOwner(z, 32, 47, 1);
    }

    private static void forkRefused() {
        Run x = States.ladder();
        String before = x.all();
        for (int s : NEVER_A_STAMP) {
            due("fork(" + s + ")", UNKNOWN, x.fork(s));
        }
        due("fork(7)", UNKNOWN, x.fork(7));
        due("fork(0) of one CELL", NO, x.fork(0));
        due("fork(6) of one CELL", NO, x.fork(6));
        dueText("refused fork", before, x.all());
        due("peek(0)", 7, x.peek(0));
        due("fork(7) of an empty NAME", STATE, x.fork(7));
        Run y = States.crowded();
        String full = y.all();
        due("fork(1) with 12", FULL, y.fork(1));
        due("fork(0) with 12: NO is looked at first", NO, y.fork(0));
        due("fork(11) with 12: STATE is looked at first", STATE, y.fork(11));
        dueText("refused fork", full, y.all());
        Run z = new Run();
        z.fork(0);
        for (int i = 0; i < 5; i++) {
            z.fork(1);
        }
        due("fork(1) of CELL 32", NO, z.fork(1));
        due("owner(32)", 1, z.owner(32));
        due("owner(33)", 6, z.owner(33));
    }

    private static void peek() {
        Run x = States.halves();
        x.happen(1);
        x.happen(0);
        due("peek(1)", 2, x.peek(1));
        due("about(2, 0)", 0, x.about(2, 0));
        dueHeights(x, 2, 0, 31, 0);
        dueHeights(x, 2, 32, 63, 1);
        due("knows(2, 0)", 1, x.knows(2, 0));
        due("knows(2, 1)", 0, x.knows(2, 1));
        dueOwner(x, 32, 63, 1);
        due("peek(2) of an empty NAME", 3, x.peek(2));
        due("order(2, 3)", 0, x.order(2, 3));
        x.drop(2);
        due("peek(0) takes the least free number", 2, x.peek(0));
        dueHeights(x, 2, 0, 31, 1);
        dueHeights(x, 2, 32, 63, 0);
        due("knows(2, 0)", 0, x.knows(2, 0));
        for (int s : NEVER_A_STAMP) {
            due("peek(" + s + ")", UNKNOWN, x.peek(s));
        }
        due("peek(4)", UNKNOWN, x.peek(4));
        Run y = States.crowded();
        String before = y.all();
        due("peek(0) with 12", FULL, y.peek(0));
        due("peek(11) with 12", FULL, y.peek(11));
        due("peek(12) with 12", UNKNOWN, y.peek(12));
        dueText("refused peek", before, y.all());
    }

    private static void happen() {
        fillWhatLiesInTheName();
        fillFromTheOtherHalf();
        fillTheOtherHalfFirst();
        fillBothHalves();
        fillLeavesWhatIsHigher();
        growCheapest();
        happenRefused();
    }

    private static void fillWhatLiesInTheName() {
        Run x = States.halves();
        x.happen(0);
        x.join(0, 1);
        due("happen(0)", 1, x.happen(0));
        dueHeights(x, 0, 0, 63, 1);
        due("happen(0)", 2, x.happen(0));
        dueHeights(x, 0, 0, 63, 2);
        due("knows(0, -1)", 3, x.knows(0, -1));
    }

    private static void fillFromTheOtherHalf() {
        Run x = States.halves();
        x.happen(1);
        x.happen(1);
        x.hear(0, 1);
        due("happen(0)", 2, x.happen(0));
        dueHeights(x, 0, 0, 63, 2);
        due("knows(0, -1)", 3, x.knows(0, -1));
        due("knows(1, 2)", 0, x.knows(1, 2));
        dueHeights(x, 1, 0, 31, 0);
        Run y = States.halves();
        y.happen(0);
        y.happen(0);
        y.hear(1, 0);
        y.happen(1);
        dueHeights(y, 1, 0, 63, 2);
    }

    private static void fillTheOtherHalfFirst() {
        Run x = States.quarters();
        x.join(0, 2);
        x.join(0, 1);
        x.happen(3);
        x.hear(0, 3);
        x.happen(0);
        dueHeights(x, 0, 0, 63, 1);
        Run y = States.quarters();
        y.join(3, 1);
        y.join(3, 2);
        y.happen(0);
        y.hear(3, 0);
        y.happen(3);
        dueHeights(y, 3, 0, 63, 1);
    }

    private static void fillBothHalves() {
        Run x = States.quarters();
        x.join(2, 3);
        x.happen(0);
        x.happen(1);
        x.happen(1);
        x.hear(2, 0);
        x.hear(2, 1);
        x.happen(2);
        dueHeights(x, 2, 0, 31, 1);
        dueHeights(x, 2, 32, 63, 2);
        Run y = States.quarters();
        y.join(0, 3);
        y.happen(1);
        y.hear(0, 1);
        y.happen(0);
        due("only the half beside what was heard is lifted", 1, y.height(0, 63));
        dueHeights(y, 0, 0, 31, 0);
        dueHeights(y, 0, 32, 63, 1);
    }

    private static void fillLeavesWhatIsHigher() {
        Run x = States.halves();
        x.happen(1);
        x.happen(0);
        x.happen(0);
        x.hear(0, 1);
        x.happen(0);
        dueHeights(x, 0, 0, 31, 3);
        dueHeights(x, 0, 32, 63, 1);
        Run w = States.quarters();
        w.happen(0);
        w.happen(0);
        w.join(0, 2);
        w.happen(0);
        dueHeights(w, 0, 0, 31, 2);
        dueHeights(w, 0, 32, 63, 0);
        Run y = States.quarters();
        y.happen(1);
        y.hear(0, 1);
        due("the least of the other half is still 0, so it grows", 0, y.growth(0, 0));
        y.happen(0);
        dueHeights(y, 0, 0, 15, 1);
        dueHeights(y, 0, 16, 31, 0);
        Run z = States.halves();
        z.happen(0);
        z.fork(0);
        z.happen(0);
        z.join(1, 2);
        z.hear(1, 0);
        z.happen(1);
        dueHeights(z, 1, 0, 15, 2);
        dueHeights(z, 1, 16, 31, 2);
        dueHeights(z, 1, 32, 63, 2);
    }

    private static void growCheapest() {
        Run x = States.quarters();
        x.join(2, 3);
        x.happen(2);
        due("of two as cheap the one with the greatest CELLS", 1, x.height(2, 48));
        dueHeights(x, 2, 0, 47, 0);
        dueHeights(x, 2, 48, 63, 1);
        x.happen(2);
        dueHeights(x, 2, 0, 47, 0);
        dueHeights(x, 2, 48, 63, 2);
        Run y = States.quarters();
        y.join(0, 2);
        y.join(0, 3);
        y.happen(0);
        dueHeights(y, 0, 0, 31, 1);
        dueHeights(y, 0, 32, 63, 0);
        Run z = States.ladder();
        z.happen(0);
        dueHeights(z, 0, 0, 0, 1);
        dueHeights(z, 0, 1, 63, 0);
        growWhereHeightsDifferAlready();
    }

    private static void growWhereHeightsDifferAlready() {
        Run x = States.ladder();
        x.happen(0);
        x.join(1, 0);
        due("32 to 63 is a half: 1 and no level", 1, x.growth(1, 2));
        x.happen(1);
        dueHeights(x, 1, 0, 0, 1);
        dueHeights(x, 1, 32, 63, 1);
        Run y = States.ladder();
        y.happen(0);
        y.join(0, 4);
        due("4 to 7 is 4 deep and begins a part with all alike", 4, y.growth(0, 2));
        y.happen(0);
        dueHeights(y, 0, 0, 0, 1);
        dueHeights(y, 0, 1, 3, 0);
        dueHeights(y, 0, 4, 7, 1);
        dueHeights(y, 0, 8, 63, 0);
    }

    private static void happenRefused() {
        Run x = States.halves();
        x.peek(0);
        String before = x.all();
        for (int s : NEVER_A_STAMP) {
            due("happen(" + s + ")", UNKNOWN, x.happen(s));
        }
        due("happen(3)", UNKNOWN, x.happen(3));
        due("happen(2) of an empty NAME", STATE, x.happen(2));
        dueText("refused happen", before, x.all());
        for (int e = 0; e < 60; e++) {
            due("happen(" + e % 2 + ")", e, x.happen(e % 2));
        }
        String full = x.all();
        due("happen(0) after 60", FULL, x.happen(0));
        due("happen(1) after 60", FULL, x.happen(1));
        due("happen(2) after 60: STATE is looked at first", STATE, x.happen(2));
        due("happen(3) after 60: UNKNOWN is looked at first", UNKNOWN, x.happen(3));
        dueText("refused happen", full, x.all());
        due("knows(1, 59)", 1, x.knows(1, 59));
        due("height(1, 63)", 30, x.height(1, 63));
    }

    private static void hear() {
        Run x = States.quarters();
        x.happen(0);
        x.happen(1);
        x.happen(1);
        x.hear(2, 0);
        due("hear(0, 1)", 16, x.hear(0, 1));
        dueHeights(x, 0, 0, 15, 1);
        dueHeights(x, 0, 16, 31, 0);
        dueHeights(x, 0, 32, 47, 2);
        dueHeights(x, 0, 48, 63, 0);
        due("knows(0, -1)", 3, x.knows(0, -1));
        due("knows(1, -1): who is heard learns nothing", 2, x.knows(1, -1));
        dueHeights(x, 1, 0, 15, 0);
        due("hear(0, 1) again", 0, x.hear(0, 1));
        due("hear(3, 0)", 32, x.hear(3, 0));
        dueOwner(x, 48, 63, 3);
        dueOwner(x, 0, 15, 0);
        due("count(0)", 4, x.count(0));
        Run y = States.halves();
        String before = y.all();
        pairRefused(y, before);
    }

    /** What hear, join, share and order do with STAMPS that are not there, and with one alone. */
    private static void pairRefused(Run x, String before) {
        for (int s : NEVER_A_STAMP) {
            for (int call = 0; call < 4; call++) {
                due("pair call " + call + " of " + s + " and 0", UNKNOWN, pair(x, call, s, 0));
                due("pair call " + call + " of 0 and " + s, UNKNOWN, pair(x, call, 0, s));
                due("pair call " + call + " of " + s + " twice", UNKNOWN, pair(x, call, s, s));
            }
        }
        for (int call = 0; call < 4; call++) {
            due("pair call " + call + " of 5 twice", UNKNOWN, pair(x, call, 5, 5));
            due("pair call " + call + " of 1 twice", call == 3 ? 0 : OUTSIDE, pair(x, call, 1, 1));
        }
        dueText("refused hear, join, share", before, x.all());
    }

    private static int pair(Run x, int call, int s, int t) {
        return call == 0 ? x.hear(s, t) : call == 1 ? x.join(s, t) : call == 2 ? x.share(s, t) : x.order(s, t);
    }

    private static void join() {
        Run x = States.quarters();
        x.happen(3);
        x.happen(0);
        due("join(0, 3)", 3, x.join(0, 3));
        dueOwner(x, 0, 15, 0);
        dueOwner(x, 48, 63, 0);
        dueHeights(x, 0, 0, 15, 1);
        dueHeights(x, 0, 16, 47, 0);
        dueHeights(x, 0, 48, 63, 1);
        due("knows(0, -1)", 2, x.knows(0, -1));
        due("happen(3) that went", UNKNOWN, x.happen(3));
        due("count(1)", 7, x.count(1));
        due("join(2, 0): a greater number stays", 2, x.join(2, 0));
        due("count(1)", 6, x.count(1));
        dueOwner(x, 0, 31, 2);
        due("peek(1) takes number 0", 0, x.peek(1));
        due("join(0, 1): an empty NAME and one that is not", 2, x.join(0, 1));
        dueOwner(x, 32, 47, 0);
        due("peek(0)", 1, x.peek(0));
        due("join(0, 1)", 2, x.join(0, 1));
        due("about(0, 0)", 16, x.about(0, 0));
        due("join(0, 2)", 1, x.join(0, 2));
        due("about(0, 0)", 64, x.about(0, 0));
        Run y = States.halves();
        pairRefused(y, y.all());
    }

    private static void share() {
        Run x = States.quarters();
        x.happen(3);
        x.happen(0);
        due("share(3, 0)", 16, x.share(3, 0));
        dueOwner(x, 0, 15, 3);
        dueOwner(x, 48, 63, 0);
        for (int s = 0; s <= 3; s += 3) {
            dueHeights(x, s, 0, 15, 1);
            dueHeights(x, s, 16, 47, 0);
            dueHeights(x, s, 48, 63, 1);
            due("knows(" + s + ", -1)", 2, x.knows(s, -1));
        }
        due("count(0)", 4, x.count(0));
        Run y = States.ladder();
        y.peek(1);
        due("share(7, 1): one NAME is empty", 16, y.share(7, 1));
        dueOwner(y, 32, 47, 7);
        dueOwner(y, 48, 63, 1);
        due("share(0, 1)", 1, y.share(0, 1));
        due("share(1, 0)", 1, y.share(1, 0));
        due("owner(0)", 1, y.owner(0));
        due("about(0, 0)", 16, y.about(0, 0));
        due("share(5, 0): 2, 3 and 48 to 63", 2, y.share(5, 0));
        due("share(2, 5): 16 to 31 and 2, 3", 2, y.share(2, 5));
        due("owner(2)", 2, y.owner(2));
        shareRefused();
    }

    private static void shareRefused() {
        Run x = States.ladder();
        x.happen(0);
        x.peek(1);
        x.peek(0);
        x.peek(6);
        String before = x.all();
        due("share(7, 8): both are empty", STATE, x.share(7, 8));
        due("share(7, 7)", OUTSIDE, x.share(7, 7));
        due("share(0, 7): one CELL", NO, x.share(0, 7));
        due("share(9, 6): one CELL", NO, x.share(9, 6));
        dueText("refused share", before, x.all());
        due("share(0, 6): two CELLS", 1, x.share(0, 6));
        due("owner(0)", 0, x.owner(0));
        due("owner(1)", 6, x.owner(1));
        Run y = States.halves();
        pairRefused(y, y.all());
        Run z = States.crowded();
        due("share(1, 11) with 12", 16, z.share(1, 11));
    }

    private static void drop() {
        Run x = States.halves();
        x.peek(0);
        x.peek(0);
        due("drop(2)", 3, x.drop(2));
        due("count(1)", 11, x.count(1));
        due("drop(2) again", UNKNOWN, x.drop(2));
        String before = x.all();
        for (int s : NEVER_A_STAMP) {
            due("drop(" + s + ")", UNKNOWN, x.drop(s));
        }
        due("drop(0)", NO, x.drop(0));
        due("drop(1)", NO, x.drop(1));
        dueText("refused drop", before, x.all());
        due("drop(3)", 2, x.drop(3));
        Run y = States.ladder();
        due("drop(0) of one CELL", NO, y.drop(0));
        Run z = new Run();
        for (int i = 0; i < 5; i++) {
            z.fork(0);
            z.share(1, 0);
            z.join(1, 0);
            z.peek(1);
            z.share(0, 1);
            z.join(0, 1);
        }
        due("drop(0) of all CELLS", NO, z.drop(0));
    }

    private static void order() {
        Run x = States.quarters();
        due("order(0, 1)", 0, x.order(0, 1));
        due("order(0, 0)", 0, x.order(0, 0));
        x.happen(0);
        due("order(0, 1)", 2, x.order(0, 1));
        due("order(1, 0)", 1, x.order(1, 0));
        due("order(0, 0)", 0, x.order(0, 0));
        x.happen(3);
        due("order(0, 3)", 3, x.order(0, 3));
        due("order(3, 0)", 3, x.order(3, 0));
        x.hear(3, 0);
        due("order(0, 3)", 1, x.order(0, 3));
        due("order(3, 0)", 2, x.order(3, 0));
        x.hear(0, 3);
        due("order(0, 3)", 0, x.order(0, 3));
        Run y = States.ladder();
        y.happen(6);
        due("order(6, 1): one CELL is greater", 2, y.order(6, 1));
        Run z = new Run();
        z.fork(0);
        for (int i = 0; i < 5; i++) {
            z.fork(i == 0 ? 1 : i + 1);
        }
        due("owner(63)", 6, z.owner(63));
        z.happen(6);
        due("order(0, 6): the last CELL is less", 1, z.order(0, 6));
        pairRefused(States.halves(), States.halves().all());
    }

    private static void knows() {
        Run x = States.halves();
        due("knows(0, 0): there was none", OUTSIDE, x.knows(0, 0));
        due("knows(0, -1)", 0, x.knows(0, -1));
        x.happen(1);
        x.happen(0);
        due("knows(0, 0)", 0, x.knows(0, 0));
        due("knows(0, 1)", 1, x.knows(0, 1));
        due("knows(0, -1)", 1, x.knows(0, -1));
        due("knows(0, 2)", OUTSIDE, x.knows(0, 2));
        due("knows(0, -2)", OUTSIDE, x.knows(0, -2));
        due("knows(0, MIN)", OUTSIDE, x.knows(0, Integer.MIN_VALUE));
        due("knows(0, MAX)", OUTSIDE, x.knows(0, Integer.MAX_VALUE));
        due("knows(0, 64): no bit 0 of it", OUTSIDE, x.knows(0, 64));
        for (int s : NEVER_A_STAMP) {
            due("knows(" + s + ", 0)", UNKNOWN, x.knows(s, 0));
            due("knows(" + s + ", -1)", UNKNOWN, x.knows(s, -1));
            due("knows(" + s + ", -2)", UNKNOWN, x.knows(s, -2));
        }
        due("knows(2, 0)", UNKNOWN, x.knows(2, 0));
        for (int e = 2; e < 60; e++) {
            x.happen(0);
        }
        due("knows(0, 59)", 1, x.knows(0, 59));
        due("knows(1, 59)", 0, x.knows(1, 59));
        due("knows(1, 40)", 0, x.knows(1, 40));
        due("knows(0, 60)", OUTSIDE, x.knows(0, 60));
        due("knows(0, -1)", 59, x.knows(0, -1));
    }

    private static void height() {
        Run x = States.halves();
        x.happen(1);
        due("height(1, 31)", 0, x.height(1, 31));
        due("height(1, 32)", 1, x.height(1, 32));
        due("height(1, 63)", 1, x.height(1, 63));
        due("height(1, 0)", 0, x.height(1, 0));
        due("height(1, 64)", OUTSIDE, x.height(1, 64));
        due("height(1, -1)", OUTSIDE, x.height(1, -1));
        due("height(1, MIN)", OUTSIDE, x.height(1, Integer.MIN_VALUE));
        due("height(1, MAX)", OUTSIDE, x.height(1, Integer.MAX_VALUE));
        for (int s : NEVER_A_STAMP) {
            due("height(" + s + ", 0)", UNKNOWN, x.height(s, 0));
            due("height(" + s + ", 64)", UNKNOWN, x.height(s, 64));
        }
        due("height(2, 0)", UNKNOWN, x.height(2, 0));
    }

    private static void owner() {
        Run x = States.ladder();
        due("owner(0)", 0, x.owner(0));
        due("owner(1)", 6, x.owner(1));
        dueOwner(x, 2, 3, 5);
        dueOwner(x, 4, 7, 4);
        dueOwner(x, 8, 15, 3);
        dueOwner(x, 16, 31, 2);
        dueOwner(x, 32, 63, 1);
        x.peek(1);
        x.share(7, 1);
        dueOwner(x, 32, 47, 7);
        dueOwner(x, 48, 63, 1);
        x.join(2, 7);
        dueOwner(x, 16, 47, 2);
        x.peek(3);
        due("owner(8): who peeks has nothing", 3, x.owner(8));
        due("owner(64)", OUTSIDE, x.owner(64));
        due("owner(-1)", OUTSIDE, x.owner(-1));
        due("owner(MIN)", OUTSIDE, x.owner(Integer.MIN_VALUE));
        due("owner(MAX)", OUTSIDE, x.owner(Integer.MAX_VALUE));
    }

    private static void name() {
        Run x = States.quarters();
        dueText("name of 0", "2 2 1 0 0", x.nameRow(0));
        dueText("name of 2", "2 2 0 1 0", x.nameRow(2));
        dueText("name of 1", "2 0 2 1 0", x.nameRow(1));
        dueText("name of 3", "2 0 2 0 1", x.nameRow(3));
        x.join(0, 3);
        dueText("name of 0", "2 2 1 0 2 0 1", x.nameRow(0));
        x.join(0, 2);
        dueText("name of 0", "2 1 2 0 1", x.nameRow(0));
        x.join(0, 1);
        dueText("name of 0", "1", x.nameRow(0));
        due("peek(0)", 1, x.peek(0));
        dueText("name of 1", "0", x.nameRow(1));
        dueText("name of CELL 1", "2 2 2 2 2 2 0 1 0 0 0 0 0", States.ladder().nameRow(6));
        due("name(1, -1)", 1, x.name(1, -1));
        due("name(1, 1)", NONE, x.name(1, 1));
        due("name(1, MAX)", NONE, x.name(1, Integer.MAX_VALUE));
        due("name(1, 200)", NONE, x.name(1, 200));
        due("name(1, -2)", OUTSIDE, x.name(1, -2));
        due("name(1, MIN)", OUTSIDE, x.name(1, Integer.MIN_VALUE));
        for (int s : NEVER_A_STAMP) {
            due("name(" + s + ", 0)", UNKNOWN, x.name(s, 0));
            due("name(" + s + ", -2)", UNKNOWN, x.name(s, -2));
        }
        due("name(2, 0)", UNKNOWN, x.name(2, 0));
    }

    private static void tree() {
        Run x = States.quarters();
        dueText("tree of 0", "0", x.treeRow(0));
        x.happen(0);
        dueText("tree of 0", "1000 0 1000 0 1 0 0", x.treeRow(0));
        x.happen(2);
        x.happen(2);
        x.happen(2);
        x.hear(2, 0);
        dueText("tree of 2", "1000 0 1000 1 0 2 0", x.treeRow(2));
        x.happen(3);
        x.happen(1);
        x.hear(3, 1);
        x.hear(2, 3);
        dueText("tree of 2", "1000 1 1000 0 0 2 0", x.treeRow(2));
        Run y = States.ladder();
        y.happen(6);
        dueText("tree of 6", "1000 0 1000 0 1000 0 1000 0 1000 0 1000 0 0 1 0 0 0 0 0", y.treeRow(6));
        due("tree(0, -1)", 1, y.tree(0, -1));
        due("tree(0, 1)", NONE, y.tree(0, 1));
        due("tree(6, 19)", NONE, y.tree(6, 19));
        due("tree(6, 189)", NONE, y.tree(6, 189));
        due("tree(6, 190)", NONE, y.tree(6, 190));
        due("tree(6, MAX)", NONE, y.tree(6, Integer.MAX_VALUE));
        due("tree(6, -2)", OUTSIDE, y.tree(6, -2));
        due("tree(6, MIN)", OUTSIDE, y.tree(6, Integer.MIN_VALUE));
        for (int s : NEVER_A_STAMP) {
            due("tree(" + s + ", 0)", UNKNOWN, y.tree(s, 0));
            due("tree(" + s + ", -2)", UNKNOWN, y.tree(s, -2));
        }
        due("tree(7, 0)", UNKNOWN, y.tree(7, 0));
    }

    private static void about() {
        Run x = new Run();
        dueAbout(x, 0, 64, 1, 0, 0, 0);
        x.happen(0);
        dueAbout(x, 0, 64, 1, 1, 1, 0);
        x.fork(0);
        x.fork(0);
        x.fork(1);
        x.happen(2);
        dueAbout(x, 2, 16, 1, 2, 1, 2);
        x.join(2, 1);
        dueAbout(x, 2, 32, 2, 2, 1, 0);
        x.join(2, 3);
        dueAbout(x, 2, 48, 2, 2, 1, 0);
        x.peek(2);
        dueAbout(x, 1, 0, 0, 2, 1, NONE);
        Run y = States.ladder();
        dueAbout(y, 0, 1, 1, 0, 0, 6);
        dueAbout(y, 5, 2, 1, 0, 0, 5);
        y.join(6, 5);
        dueAbout(y, 6, 3, 2, 0, 0, 4);
        y.join(6, 4);
        dueAbout(y, 6, 7, 3, 0, 0, 3);
        y.join(6, 1);
        dueAbout(y, 6, 39, 4, 0, 0, 0);
        due("about(0, 5)", OUTSIDE, x.about(0, 5));
        due("about(0, -1)", OUTSIDE, x.about(0, -1));
        due("about(0, MIN)", OUTSIDE, x.about(0, Integer.MIN_VALUE));
        due("about(0, MAX)", OUTSIDE, x.about(0, Integer.MAX_VALUE));
        for (int s : NEVER_A_STAMP) {
            due("about(" + s + ", 0)", UNKNOWN, x.about(s, 0));
            due("about(" + s + ", 5)", UNKNOWN, x.about(s, 5));
        }
        due("about(3, 0)", UNKNOWN, x.about(3, 0));
    }

    private static void dueAbout(Run x, int s, int... want) {
        for (int what = 0; what < want.length; what++) {
            due("about(" + s + ", " + what + ")", want[what], x.about(s, what));
        }
    }

    private static void growth() {
        Run x = new Run();
        dueGrowth(x, 0, 0, 64, 0, 0, 0);
        x.fork(0);
        dueGrowth(x, 1, 0, 32, 1001, 32, 1);
        x.happen(1);
        dueGrowth(x, 1, 0, 32, 1, 32, 1);
        x.hear(0, 1);
        dueGrowth(x, 0, 1, 32, NONE, NONE, NONE);
        x.fork(0);
        x.fork(1);
        x.join(2, 3);
        dueGrowth(x, 2, 0, 16, 1002, 48, 2);
        String before = x.all();
        dueGrowth(x, 2, 0, 16, 1002, 48, 2);
        dueText("growth changes nothing", before, x.all());
        x.happen(2);
        dueGrowth(x, 2, 0, 16, 2, 48, 2);
        Run y = States.ladder();
        dueGrowth(y, 0, 0, 1, 6006, 0, 6);
        y.join(0, 2);
        dueGrowth(y, 0, 0, 16, 2002, 16, 2);
        y.happen(0);
        dueGrowth(y, 0, 0, 16, 2, 16, 2);
        growthRefused();
    }

    private static void growthRefused() {
        Run x = States.halves();
        x.peek(0);
        for (int what = 0; what <= 4; what++) {
            due("growth(2, " + what + ") of an empty NAME", STATE, x.growth(2, what));
            for (int s : NEVER_A_STAMP) {
                due("growth(" + s + ", " + what + ")", UNKNOWN, x.growth(s, what));
            }
        }
        due("growth(2, 5): OUTSIDE is looked at first", OUTSIDE, x.growth(2, 5));
        due("growth(3, 5): UNKNOWN is looked at first", UNKNOWN, x.growth(3, 5));
        due("growth(0, 5)", OUTSIDE, x.growth(0, 5));
        due("growth(0, -1)", OUTSIDE, x.growth(0, -1));
        due("growth(0, MIN)", OUTSIDE, x.growth(0, Integer.MIN_VALUE));
        due("growth(0, MAX)", OUTSIDE, x.growth(0, Integer.MAX_VALUE));
        for (int e = 0; e < 60; e++) {
            x.happen(0);
        }
        dueGrowth(x, 0, 0, 32, 1, 0, 1);
    }

    private static void dueGrowth(Run x, int s, int... want) {
        for (int what = 0; what < want.length; what++) {
            due("growth(" + s + ", " + what + ")", want[what], x.growth(s, what));
        }
    }

    private static void unlike() {
        Run x = new Run();
        dueUnlike(x, 1, 1, 1);
        x.fork(0);
        dueUnlike(x, 1, 2, 2);
        x.peek(0);
        x.peek(1);
        dueUnlike(x, 1, 3, 4);
        x.happen(0);
        dueUnlike(x, 2, 3, 1);
        x.happen(1);
        dueUnlike(x, 3, 3, 2);
        x.peek(1);
        dueUnlike(x, 3, 3, 3);
        x.hear(3, 0);
        dueUnlike(x, 3, 3, 4);
        x.hear(2, 0);
        x.hear(2, 1);
        dueUnlike(x, 3, 3, 1);
        x.drop(2);
        dueUnlike(x, 2, 3, 4);
        x.happen(1);
        dueUnlike(x, 3, 3, 3);
        due("unlike(3)", OUTSIDE, x.unlike(3));
        due("unlike(-1)", OUTSIDE, x.unlike(-1));
        due("unlike(MIN)", OUTSIDE, x.unlike(Integer.MIN_VALUE));
        due("unlike(MAX)", OUTSIDE, x.unlike(Integer.MAX_VALUE));
        dueUnlike(States.crowded(), 1, 8, 12);
    }

    private static void dueUnlike(Run x, int... want) {
        for (int what = 0; what < want.length; what++) {
            due("unlike(" + what + ")", want[what], x.unlike(what));
        }
    }

    private static void image() {
        Run x = States.halves();
        due("image(2)", OUTSIDE, x.image(2));
        due("image(-1)", OUTSIDE, x.image(-1));
        due("image(MIN)", OUTSIDE, x.image(Integer.MIN_VALUE));
        due("image(MAX)", OUTSIDE, x.image(Integer.MAX_VALUE));
        due("count(3)", 0, x.count(3));
        due("image(0)", 1, x.image(0));
        due("count(3)", 1, x.count(3));
        x.happen(0);
        due("image(1)", 1, x.image(1));
        due("count(3)", 3, x.count(3));
        x.happen(1);
        due("image(0) in place of what was kept", 1, x.image(0));
        String later = x.all();
        x.join(0, 1);
        x.restore(1);
        due("count(2)", 1, x.count(2));
        x.restore(0);
        dueText("restored the later image", later, x.all());
    }

    private static void restore() {
        Run x = States.halves();
        due("restore(0)", STATE, x.restore(0));
        due("restore(2)", OUTSIDE, x.restore(2));
        due("restore(-1)", OUTSIDE, x.restore(-1));
        due("restore(MIN)", OUTSIDE, x.restore(Integer.MIN_VALUE));
        due("restore(MAX)", OUTSIDE, x.restore(Integer.MAX_VALUE));
        x.happen(0);
        x.peek(0);
        x.image(1);
        due("restore(0)", STATE, x.restore(0));
        String kept = x.all();
        x.happen(1);
        x.hear(0, 1);
        x.drop(2);
        x.fork(1);
        x.fork(1);
        due("restore(1)", 1, x.restore(1));
        dueText("restored", kept, x.all());
        x.share(1, 0);
        x.happen(0);
        x.join(0, 1);
        due("restore(1) again", 1, x.restore(1));
        dueText("restored again", kept, x.all());
        due("happen(1) has the number that came back", 1, x.happen(1));
        due("knows(0, 1)", 0, x.knows(0, 1));
        x.image(0);
        String other = x.all();
        x.restore(1);
        due("count(2)", 1, x.count(2));
        due("count(3): the IMAGES stay", 3, x.count(3));
        x.restore(0);
        dueText("restored the other one", other, x.all());
        restoreAfterFull();
    }

    private static void restoreAfterFull() {
        Run x = new Run();
        x.image(0);
        for (int e = 0; e < 61; e++) {
            x.happen(0);
        }
        due("happen(0)", FULL, x.happen(0));
        x.restore(0);
        due("happen(0) after restore", 0, x.happen(0));
    }

    private static void count() {
        Run x = States.halves();
        x.fork(0);
        x.peek(2);
        due("count(0)", 4, x.count(0));
        due("count(1)", 15, x.count(1));
        x.join(2, 1);
        due("count(0)", 3, x.count(0));
        due("count(1)", 13, x.count(1));
        x.happen(0);
        x.happen(2);
        x.happen(3);
        due("count(2)", 2, x.count(2));
        x.image(1);
        due("count(3)", 2, x.count(3));
        x.image(0);
        due("count(3)", 3, x.count(3));
        due("count(4)", OUTSIDE, x.count(4));
        due("count(-1)", OUTSIDE, x.count(-1));
        due("count(MIN)", OUTSIDE, x.count(Integer.MIN_VALUE));
        due("count(MAX)", OUTSIDE, x.count(Integer.MAX_VALUE));
        Run y = States.crowded();
        due("count(0)", 12, y.count(0));
        due("count(1)", 4095, y.count(1));
    }

    private static void run(int number) {
        promise = number;
        switch (number) {
            case 1 -> newObject();
            case 2 -> fork();
            case 3 -> peek();
            case 4 -> happen();
            case 5 -> hear();
            case 6 -> join();
            case 7 -> share();
            case 8 -> drop();
            case 9 -> order();
            case 10 -> knows();
            case 11 -> height();
            case 12 -> owner();
            case 13 -> name();
            case 14 -> tree();
            case 15 -> about();
            case 16 -> growth();
            case 17 -> unlike();
            case 18 -> image();
            case 19 -> restore();
            default -> count();
        }
    }

    public static void main(String[] args) {
        for (int number = 1; number <= 20; number++) {
            run(number);
        }
        System.out.println(asked + " answers looked at, " + wrong + " not as due");
        if (wrong != 0) {
            System.exit(1);
        }
    }
}
