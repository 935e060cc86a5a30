import java.util.List;
import java.util.Random;

/** The sentences of parts 2 and 3 of the terms that name an edge, each with a test of its own. */
public final class HappeningEdgeTest {
    /** A HAPPENING at a: what growth told of it, and the HEIGHTS after it. */
    private static void dueAfter(String text, String heights, int... growth) {
        Line line = new Line(text);
        Run x = line.run;
        int a = line.number('a');
        for (int what = 0; what < growth.length; what++) {
            Check.due("growth(a, " + what + ") of " + text, growth[what], x.growth(a, what));
        }
        int happenings = x.again().count(2);
        Check.due("happen(a) of " + text, happenings, x.happen(a));
        Check.due("heights of a after " + text, heights, x.heights(a));
    }

    /** It FILLS, and so many HEIGHTS become others. */
    private static void dueFill(String text, String heights, int changed) {
        dueAfter(text, heights, 1, changed, Check.NONE, Check.NONE, Check.NONE);
    }

    private static void dueGrow(String text, String heights, int cost, int first, int depth) {
        dueAfter(text, heights, 0, 64 >> depth, cost, first, depth);
    }

    private static void filledIsAll() {
        Check.sentence("Terms 2", "if by that any HEIGHT becomes another one, that is all;");
        dueFill("a32:0 b32:1", "64:1", 32);
        dueFill("a1:0 b1:1 b30:0 a32:7", "2:1 30:0 32:7", 1);
        dueFill("a32:7 b30:0 b1:1 a1:0", "32:7 30:0 2:1", 1);
        dueFill("a63:5 a1:4", "64:5", 1);
    }

    private static void elseTheyGrow() {
        Check.sentence("Terms 2", "else they GROW.");
        dueGrow("a64:0", "64:1", 0, 0, 0);
        dueGrow("a32:1 b32:1", "32:2 32:1", 1001, 0, 1);
        dueGrow("a32:1 b32:0", "32:2 32:0", 1, 0, 1);
    }

    private static void fillNoneOfIt() {
        Check.sentence("Terms 2", "(a) if N has none of it");
        dueFill("a32:0 b16:1 b16:3", "48:1 16:3", 32);
        dueFill("b16:3 b16:1 a32:0", "16:3 48:1", 32);
        dueFill("b16:3 b16:1 a16:0 b16:2", "16:3 16:1 32:2", 16);
        dueGrow("b16:3 b16:1 a32:1", "16:3 16:1 32:2", 1, 32, 1);
    }

    private static void fillAlike() {
        Check.sentence("Terms 2", "or all its HEIGHTS are alike, it stays;");
        dueGrow("a16:1 b48:1", "16:2 48:1", 2002, 0, 2);
        dueGrow("b48:1 a16:1", "48:1 16:2", 2002, 48, 2);
        dueGrow("a16:1 b16:1 a16:2 b16:0", "32:1 16:3 16:0", 2, 32, 2);
        dueFill("a16:1 b16:1 a16:0 b16:2", "32:1 32:2", 16);
    }

    private static void fillWhatLiesInN() {
        Check.sentence("Terms 2", "(b) else, if it lies in N, all its HEIGHTS become the greatest one of them;");
        dueFill("a1:5 a63:0", "64:5", 63);
        dueFill("a63:0 a1:5", "64:5", 63);
        dueFill("a32:0 a32:1", "64:1", 32);
        dueFill("a32:1 a32:0", "64:1", 32);
        dueFill("a16:3 a16:1 a16:4 a16:2", "64:4", 48);
        dueFill("a31:2 a1:3 a32:2", "64:3", 63);
        dueFill("a1:0 a1:5 a62:0", "64:5", 63);
        dueFill("a62:0 a1:5 a1:0", "64:5", 63);
    }

    private static void fillLowerHalf() {
        Check.sentence("Terms 2", "(c) else, if its LOWER half lies in N:");
        dueFill("a16:1 a16:3 b32:2", "32:3 32:2", 16);
        dueFill("a32:0 b32:2", "64:2", 32);
        dueFill("b32:0 a16:0 b16:2", "32:0 32:2", 16);
        dueFill("a1:0 b1:2 b62:0", "2:2 62:0", 1);
        dueFill("b62:0 a1:0 b1:2", "62:0 2:2", 1);
        dueGrow("a32:2 b32:1", "32:3 32:1", 1, 0, 1);
    }

    private static void upperIsFilled() {
        Check.sentence("Terms 2", "the UPPER half is FILLED;");
        dueFill("a32:3 b16:2 a16:1", "32:3 32:2", 16);
        dueFill("a32:3 a16:1 b16:2", "32:3 32:2", 16);
        dueFill("a32:3 b8:0 b8:1 a8:0 b8:2", "32:3 8:0 8:1 16:2", 8);
    }

    private static void greatestOfLower() {
        Check.sentence("Terms 2", "then all HEIGHTS of the LOWER half become the greatest one of the LOWER half");
        dueFill("a16:1 a16:3 b16:2 b16:4", "32:3 16:2 16:4", 16);
        dueFill("a1:4 a31:1 b32:0", "32:4 32:0", 31);
        dueFill("a31:1 a1:4 b32:0", "32:4 32:0", 31);
        dueFill("a1:1 a1:4 a30:1 b32:0", "32:4 32:0", 31);
        dueFill("a30:1 a1:4 a1:1 b32:0", "32:4 32:0", 31);
    }

    private static void leastOfUpper() {
        Check.sentence("Terms 2", "or the least one of the UPPER half as it is then, whichever is greater;");
        dueFill("a16:1 a16:2 b16:3 b16:4", "48:3 16:4", 32);
        dueFill("a32:0 b16:1 b16:5", "48:1 16:5", 32);
        dueFill("a32:0 b31:5 b1:1", "32:1 31:5 1:1", 32);
        dueFill("a32:0 b1:1 b31:5", "33:1 31:5", 32);
        dueFill("a32:0 b16:2 a16:1", "64:2", 48);
        dueFill("a32:0 a16:1 b16:2", "64:2", 48);
        dueFill("a32:0 b16:3 b8:2 a8:0", "32:2 16:3 16:2", 40);
        dueGrow("a32:2 b16:2 b16:4", "32:3 16:2 16:4", 1, 0, 1);
        dueGrow("a32:0 b31:5 b1:0", "32:1 31:5 1:0", 1, 0, 1);
    }

    private static void fillUpperHalf() {
        Check.sentence("Terms 2", "(d) else, if its UPPER half lies in N: likewise the other way about;");
        dueFill("b32:2 a16:3 a16:1", "32:2 32:3", 16);
        dueFill("b32:2 a32:0", "64:2", 32);
        dueFill("b16:2 a16:0 b32:0", "32:2 32:0", 16);
        dueFill("b1:2 a1:0 b62:0", "2:2 62:0", 1);
        dueFill("b62:0 b1:2 a1:0", "62:0 2:2", 1);
        dueFill("a16:1 b16:2 a32:3", "32:2 32:3", 16);
        dueFill("b16:2 a16:1 a32:3", "32:2 32:3", 16);
        dueFill("b16:4 b16:2 a16:3 a16:1", "16:4 16:2 32:3", 16);
        dueFill("b16:4 b16:3 a16:2 a16:1", "16:4 48:3", 32);
        dueFill("b16:5 b16:1 a32:0", "16:5 48:1", 32);
        dueFill("b31:5 b1:1 a32:0", "31:5 33:1", 32);
        dueFill("b1:1 b31:5 a32:0", "1:1 31:5 32:1", 32);
        dueFill("a16:1 b16:2 a32:0", "64:2", 48);
        dueFill("b16:2 a16:1 a32:0", "64:2", 48);
        dueFill("a8:0 b8:2 b16:3 a32:0", "16:2 16:3 32:2", 40);
        dueGrow("b16:4 b16:2 a32:2", "16:4 16:2 32:3", 1, 32, 1);
        dueGrow("b32:1 a32:2", "32:1 32:3", 1, 32, 1);
    }

    private static void fillBothHalves() {
        Check.sentence("Terms 2", "(e) else both halves are FILLED.");
        dueFill("a16:0 b16:1 b16:3 a16:0", "32:1 32:3", 32);
        dueFill("b16:1 a16:0 a16:0 b16:3", "32:1 32:3", 32);
        dueFill("a16:0 b16:1 b32:0", "32:1 32:0", 16);
        dueFill("b32:0 b16:1 a16:0", "32:0 32:1", 16);
        dueFill("a16:0 b16:1 a16:2 b16:2", "32:1 32:2", 16);
        dueFill("a16:2 b16:2 a16:0 b16:1", "32:2 32:1", 16);
        dueFill("a1:0 b1:1 ".repeat(32).trim(), "64:1", 32);
    }

    private static void beginsWithAllCells() {
        Check.sentence("Terms 2", "It begins with the SPAN of all CELLS.");
        dueFill("a32:0 b32:4", "64:4", 32);
        dueFill("b32:4 a32:0", "64:4", 32);
        dueFill("a32:1 a32:4", "64:4", 32);
        dueFill("a16:0 a16:0 b16:1 b16:2", "48:1 16:2", 32);
    }

    /** A LINE with one PIECE, at its beginning or its end. */
    private static String onePiece(boolean atEnd, int size, int height, int other) {
        String rest = "b" + (64 - size) + ":" + other;
        String piece = "a" + size + ":" + height;
        return atEnd ? rest + " " + piece : piece + " " + rest;
    }

    private static void costIsDepth() {
        Check.sentence("Terms 2", "for each PIECE of N the COST is its DEPTH");
        dueGrow("a64:3", "64:4", 0, 0, 0);
        for (int depth = 1; depth <= 6; depth++) {
            int size = 64 >> depth;
            String raised = size + ":2";
            String rest = 64 - size + ":0";
            dueGrow(onePiece(false, size, 1, 0), raised + " " + rest, depth, 0, depth);
            dueGrow(onePiece(true, size, 1, 0), rest + " " + raised, depth, 64 - size, depth);
        }
    }

    private static void costOfLevels() {
        Check.sentence("Terms 2", "and 1000 times by how much its DEPTH is greater than that of the greatest SPAN "
            + "that has it and has all HEIGHTS alike;");
        for (int depth = 1; depth <= 6; depth++) {
            int size = 64 >> depth;
            String raised = size + ":1";
            String rest = 64 - size + ":0";
            dueGrow(onePiece(false, size, 0, 0), raised + " " + rest, 1001 * depth, 0, depth);
            dueGrow(onePiece(true, size, 0, 0), rest + " " + raised, 1001 * depth, 64 - size, depth);
        }
        for (int level = 1; level <= 5; level++) {
            int alike = 1 << level;
            String others = "b" + (64 - alike) + ":1";
            String text = "a1:0 b" + (alike - 1) + ":0 " + others;
            dueGrow(text, "1:1 " + (alike - 1) + ":0 " + (64 - alike) + ":1", 6 + 1000 * level, 0, 6);
        }
        dueGrow("b8:1 b4:0 a4:0 b48:0", "8:1 4:0 4:1 48:0", 1004, 12, 4);
    }

    private static void leastCost() {
        Check.sentence("Terms 2", "HEIGHTS of the PIECE of the least COST");
        dueGrow("a1:1 b31:0 a16:0 b16:0", "1:2 63:0", 6, 0, 6);
        dueGrow("a16:0 b16:0 b31:0 a1:1", "63:0 1:2", 6, 63, 6);
        dueGrow("a16:1 b16:0 a8:1 b24:0", "16:2 16:0 8:1 24:0", 2, 0, 2);
        dueGrow("b24:0 a8:1 b16:0 a16:1", "24:0 8:1 16:0 16:2", 2, 48, 2);
        dueGrow("a16:0 b16:0 b8:0 a24:0", "48:0 16:1", 2002, 48, 2);
        dueGrow("a32:0 b31:0 a1:0", "32:1 32:0", 1001, 0, 1);
        dueGrow("a1:0 b31:0 a32:0", "32:0 32:1", 1001, 32, 1);
    }

    private static void sameCost() {
        Check.sentence("Terms 2", "of as little of the one with the greatest CELLS, become one more.");
        dueGrow("a16:0 b32:0 a16:0", "48:0 16:1", 2002, 48, 2);
        dueGrow("a16:3 b16:0 b16:0 a16:1", "16:3 32:0 16:2", 2, 48, 2);
        dueGrow("a16:1 b16:0 b16:0 a16:3", "16:1 32:0 16:4", 2, 48, 2);
        dueGrow("a1:0 b62:0 a1:0", "63:0 1:1", 6006, 63, 6);
        dueGrow("a1:0 b1:0 ".repeat(32).trim(), "62:0 1:1 1:0", 6006, 62, 6);
        dueGrow("b1:0 a1:0 ".repeat(32).trim(), "63:0 1:1", 6006, 63, 6);
        dueGrow("a1:1 b1:0 a1:1 b1:0 b60:0", "1:1 1:0 1:2 61:0", 6, 2, 6);
    }

    private static void knowsIt() {
        Check.sentence("Terms 2", "The STAMP KNOWS that HAPPENING, too, then.");
        Run grown = States.halves();
        grown.happen(1);
        grown.happen(0);
        Check.due("known of 0", "1", grown.known(0));
        Check.due("known of 1", "0", grown.known(1));
        Run filled = States.halves();
        filled.happen(1);
        filled.hear(0, 1);
        Check.due(filled, Call.GROWTH, 0, 0, 1);
        filled.happen(0);
        Check.due("known of 0, who heard it", "0 1", filled.known(0));
        Check.due("known of 1", "0", filled.known(1));
    }

    private static void hears() {
        Check.sentence("Terms 3", "its HEIGHTS become those of the other one where these are greater, "
            + "and it KNOWS what either KNEW.");
        Run x = States.quarters();
        x.happen(0);
        x.happen(1);
        x.happen(3);
        x.happen(3);
        x.hear(0, 3);
        x.hear(3, 1);
        Check.due("hear(0, 3): 48 to 63 are as much", 16, x.hear(0, 3));
        Check.due("heights of 0", "16:1 16:0 16:1 16:2", x.heights(0));
        Check.due("known of 0", "0 1 2 3", x.known(0));
        Check.due("heights of 3, who was heard", "32:0 16:1 16:2", x.heights(3));
        Check.due("known of 3, who was heard", "1 2 3", x.known(3));
        Check.due("owners", "16:0 16:2 16:1 16:3", x.owners());
        Check.due("hear(2, 1)", 16, x.hear(2, 1));
        Check.due("known of 2, who knew nothing", "1", x.known(2));
        Check.due("hear(1, 2): nothing is greater", 0, x.hear(1, 2));
    }

    private static void before() {
        Check.sentence("Terms 3", "A STAMP is BEFORE another one, if no HEIGHT of it is greater than that of the "
            + "other one, and any is less.");
        for (int cell : new int[] {0, 1, 31, 32, 62, 63}) {
            Line line = new Line(oneCell(cell));
            int a = line.number('a');
            int b = line.number('b');
            line.run.happen(a);
            Check.due("order(b, a): CELL " + cell + " alone is less", 1, line.run.order(b, a));
            Check.due("order(a, b): CELL " + cell + " alone is greater", 2, line.run.order(a, b));
            line.run.happen(b);
            Check.due("order(a, b): each has a greater one", 3, line.run.order(a, b));
            line.run.hear(b, a);
            Check.due("order(a, b): b has heard a", 1, line.run.order(a, b));
        }
    }

    private static String oneCell(int cell) {
        String below = cell == 0 ? "" : "b" + cell + ":0 ";
        return below + "a1:0" + (cell == 63 ? "" : " b" + (63 - cell) + ":0");
    }

    private static void even() {
        Check.sentence("Terms 3", "Two are EVEN, if all HEIGHTS are alike.");
        Run x = States.halves();
        Check.due("order(0, 1): unlike NAMES, all 0", 0, x.order(0, 1));
        x.happen(0);
        x.hear(1, 0);
        Check.due("order(0, 1)", 0, x.order(0, 1));
        Check.due("order(1, 0)", 0, x.order(1, 0));
        x.peek(0);
        Check.due("order(2, 1): an empty NAME", 0, x.order(2, 1));
        Check.due("order(2, 2)", 0, x.order(2, 2));
    }

    private static void orderIsKnowledge() {
        Check.sentence("Terms", "Which of two stamps came before the other one is told by heights alone, and is just "
            + "what they know.");
        Call[] calls = {
            Call.FORK, Call.FORK, Call.HAPPEN, Call.HAPPEN, Call.HAPPEN, Call.HEAR, Call.PEEK, Call.DROP, Call.SHARE,
            Call.JOIN};
        for (int seed = 0; seed < 200; seed++) {
            Random random = new Random(seed);
            Run x = new Run();
            int many = 20 + random.nextInt(180);
            while (x.calls() < many) {
                Call call = calls[random.nextInt(calls.length)];
                x.make(call, random.nextInt(12), random.nextInt(12));
            }
            dueOrders(x, "seed " + seed);
        }
    }

    private static void dueOrders(Run x, String where) {
        Run other = x.again();
        for (int s = 0; s < 12; s++) {
            for (int t = 0; t < 12; t++) {
                int order = other.order(s, t);
                if (order >= 0) {
                    int less = knowsAll(x.known(t), x.known(s)) ? 0 : 2;
                    int more = knowsAll(x.known(s), x.known(t)) ? 0 : 1;
                    Check.due(where + ": order(" + s + ", " + t + ")", less + more, order);
                }
            }
        }
    }

    private static boolean knowsAll(String known, String other) {
        // an empty text would be split into one empty part
        return other.isEmpty() || List.of(known.split(" ")).containsAll(List.of(other.split(" ")));
    }

    private static void dueName(String text, String row) {
        Line line = new Line(text);
        Check.due("TREE of the NAME of a in " + text, row, line.run.nameRow(line.number('a')));
    }

    private static void nameTrees() {
        Check.sentence("Terms 3", "0, if none of the SPAN is in it; 1, if all is; else 2, and the row of the LOWER "
            + "half, then that of the UPPER half.");
        Run x = new Run();
        x.peek(0);
        Check.due("TREE of an empty NAME", "0", x.nameRow(1));
        dueName("a64:0", "1");
        dueName("a32:0 b32:0", "2 1 0");
        dueName("b32:0 a32:0", "2 0 1");
        dueName("a1:0 b63:0", "2 2 2 2 2 2 1 0 0 0 0 0 0");
        dueName("b63:0 a1:0", "2 0 2 0 2 0 2 0 2 0 2 0 1");
        dueName("a63:0 b1:0", "2 1 2 1 2 1 2 1 2 1 2 1 0");
        dueName("b16:0 a32:0 b16:0", "2 2 0 1 2 1 0");
        String pair = "2 1 0";
        for (int size = 4; size <= 64; size *= 2) {
            pair = "2 " + pair + " " + pair;
        }
        dueName("a1:0 b1:0 ".repeat(32).trim(), pair);
    }

    private static void dueTree(String text, String row) {
        Line line = new Line(text);
        Check.due("TREE of the HEIGHTS of a in " + text, row, line.run.treeRow(line.number('a')));
    }

    private static void heightTreesAlike() {
        Check.sentence("Terms 3", "if all are alike that HEIGHT less b;");
        dueTree("a64:0", "0");
        dueTree("a64:1", "1");
        dueTree("a64:60", "60");
        dueTree("a32:7 b32:7", "7");
        dueTree("a32:7 b32:5", "1000 5 2 0");
    }

    private static void heightTreesUnlike() {
        Check.sentence("Terms 3", "else two numbers, 1000, and the least of these HEIGHTS less b; then the row of "
            + "the LOWER half, then that of the UPPER half, both above that least one.");
        dueTree("a32:0 b32:1", "1000 0 0 1");
        dueTree("a32:1 b32:0", "1000 0 1 0");
        dueTree("a16:5 b16:3 a16:9 b16:2", "1000 2 1000 1 2 0 1000 0 7 0");
        dueTree("a63:0 b1:60", "1000 0 0 1000 0 0 1000 0 0 1000 0 0 1000 0 0 1000 0 0 60");
        dueTree("a1:2 b63:1", "1000 1 1000 0 1000 0 1000 0 1000 0 1000 0 1 0 0 0 0 0 0");
        String pair = "1000 0 1 0";
        for (int size = 4; size <= 64; size *= 2) {
            pair = "1000 0 " + pair + " " + pair;
        }
        dueTree("a1:1 b1:0 ".repeat(32).trim(), pair);
    }

    public static void main(String[] args) {
        filledIsAll();
        elseTheyGrow();
        fillNoneOfIt();
        fillAlike();
        fillWhatLiesInN();
        fillLowerHalf();
        upperIsFilled();
        greatestOfLower();
        leastOfUpper();
        fillUpperHalf();
        fillBothHalves();
        beginsWithAllCells();
        costIsDepth();
        costOfLevels();
        leastCost();
        sameCost();
        knowsIt();
        hears();
        before();
        even();
        orderIsKnowledge();
        nameTrees();
        heightTreesAlike();
        heightTreesUnlike();
        Check.end();
    }
}
