/** The sentences of "What it is" and of part 1 of the terms that name an edge, each with a test of its own. */
public final class LineEdgeTest {
    private static final int LAST_CALL = 512;

    private static void usedFor512Calls() {
        Check.sentence("What it is", "An object is used for at most 512 calls after it has been made");
        int[][] due = {
            {1, 0, 3}, {0, 0, 3}, {1, 0, 1}, {1, 0, 32}, {0, 1, 2}, {0, 2, 16}, {2, 0, 2}, {1, 0, 1}, {0, 0, 1},
            {0, 31, 1}, {32, 0, 1}, {0, -1, 3}, {0, -1, 4}, {0, 2, 1}, {1, 2, 1001}, {0, 0, 2}, {1, 0, 1},
            {0, 0, 1}, {0, 0, 3}};
        Call[] calls = Call.values();
        Check.due("calls with a due answer", calls.length, due.length);
        for (int i = 0; i < calls.length; i++) {
            Run x = madeFor511Calls();
            Check.due("calls before " + calls[i], LAST_CALL - 1, x.calls());
            Check.due(x, calls[i], due[i][0], due[i][1], due[i][2]);
        }
    }

    /** The halves, 2 that peeked at 0, a HAPPENING at 0 after that, IMAGE 0. */
    private static Run madeFor511Calls() {
        Run x = States.halves();
        x.peek(0);
        x.happen(0);
        x.image(0);
        x.growth(0, 0);
        while (x.calls() < LAST_CALL - 1) {
            x.peek(1);
            x.drop(3);
        }
        return x;
    }

    private static void lastCallsCount() {
        Check.sentence("What it is", "An object is used for at most 512 calls after it has been made");
        Run x = States.halves();
        while (x.calls() < LAST_CALL - 60) {
            x.hear(0, 1);
        }
        for (int e = 0; e < 60; e++) {
            Check.due(x, Call.HAPPEN, 0, e);
        }
        Check.due("calls", LAST_CALL, x.calls());
    }

    private static void sixtyFourCells() {
        Check.sentence("Terms 1", "THE LINE has 64 CELLS, 0 to 63.");
        Run x = States.halves();
        x.happen(1);
        Check.due(x, Call.OWNER, 0, 0);
        Check.due(x, Call.OWNER, 63, 1);
        Check.due(x, Call.HEIGHT, 1, 0, 0);
        Check.due(x, Call.HEIGHT, 1, 63, 1);
        Check.due(x, Call.ABOUT, 0, 0, 32);
        for (int cell : new int[] {-1, 64, Check.MIN, Check.MAX}) {
            Check.refused(x, Call.OWNER, cell, Check.OUTSIDE);
            Check.refused(x, Call.HEIGHT, 1, cell, Check.OUTSIDE);
        }
    }

    /** A LINE on which a has so many CELLS from first on, and b the rest; HEIGHTS are 0. */
    private static Line block(int first, int size) {
        String below = first == 0 ? "" : "b" + first + ":0 ";
        String above = first + size == 64 ? "" : " b" + (64 - first - size) + ":0";
        return new Line(below + "a" + size + ":0" + above);
    }

    private static void spans() {
        Check.sentence("Terms 1", "A SPAN is 64, 32, 16, 8, 4, 2 or 1 CELLS that begin at a multiple of so many;");
        for (int size = 64; size >= 1; size /= 2) {
            for (int first = 0; first < 64; first += size) {
                Line line = block(first, size);
                Check.due(line.run, Call.ABOUT, line.number('a'), 0, size);
                Check.due(line.run, Call.ABOUT, line.number('a'), 1, 1);
            }
        }
        for (int size = 2; size <= 32; size *= 2) {
            for (int first = size / 2; first + size <= 64; first += size) {
                Line line = block(first, size);
                Check.due(line.run, Call.ABOUT, line.number('a'), 0, size);
                Check.due(line.run, Call.ABOUT, line.number('a'), 1, 2);
            }
        }
    }

    private static void depths() {
        Check.sentence("Terms 1", "its DEPTH is 0, 1, .. 6.");
        for (int depth = 0; depth <= 6; depth++) {
            int size = 64 >> depth;
            for (int first = 0; first < 64; first += size) {
                Line line = block(first, size);
                Check.due(line.run, Call.ABOUT, line.number('a'), 4, depth);
                Check.due(line.run, Call.GROWTH, line.number('a'), 4, depth);
            }
        }
    }

    private static void halvesOfSpans() {
        Check.sentence("Terms 1", "The LOWER half of a SPAN of more than one CELL: the half with the lesser CELLS; "
            + "the UPPER half: the other one.");
        for (int size = 64; size >= 2; size /= 2) {
            for (int first = 0; first < 64; first += size) {
                Line line = block(first, size);
                int lower = line.number('a');
                int upper = line.run.fork(lower);
                int half = size / 2;
                Check.due(line.run, Call.OWNER, first, lower);
                Check.due(line.run, Call.OWNER, first + half - 1, lower);
                Check.due(line.run, Call.OWNER, first + half, upper);
                Check.due(line.run, Call.OWNER, first + size - 1, upper);
                Check.due(line.run, Call.ABOUT, lower, 0, half);
                Check.due(line.run, Call.ABOUT, upper, 0, half);
            }
        }
    }

    private static void upTo12Stamps() {
        Check.sentence("Terms 1", "There are up to 12 STAMPS, with numbers 0 to 11;");
        Run forked = new Run();
        Run peeked = new Run();
        for (int number = 1; number <= 11; number++) {
            Check.refused(forked, Call.ABOUT, number, 0, Check.UNKNOWN);
            Check.due(forked, Call.FORK, number / 4, number);
            Check.due(peeked, Call.PEEK, number / 2, number);
            Check.due(forked, Call.COUNT, 0, number + 1);
            Check.due(peeked, Call.COUNT, 1, (2 << number) - 1);
        }
        Check.refused(forked, Call.FORK, 3, Check.FULL);
        Check.refused(forked, Call.PEEK, 11, Check.FULL);
        Check.refused(peeked, Call.FORK, 0, Check.FULL);
        Check.refused(peeked, Call.PEEK, 11, Check.FULL);
        Check.refused(forked, Call.ABOUT, 12, 0, Check.UNKNOWN);
    }

    private static void leastFreeNumber() {
        Check.sentence("Terms 1", "a new one takes the least number that is free.");
        for (int gone = 1; gone <= 11; gone++) {
            Run peeked = new Run();
            for (int i = 1; i <= 11; i++) {
                peeked.peek(0);
            }
            Run forked = peeked.again();
            peeked.drop(gone);
            forked.drop(gone);
            Check.due(peeked, Call.PEEK, 0, gone);
            Check.due(forked, Call.FORK, 0, gone);
        }
        Run x = States.quarters();
        x.join(1, 0);
        x.join(3, 2);
        Check.due(x, Call.COUNT, 1, 10);
        Check.due(x, Call.FORK, 3, 0);
        Check.due(x, Call.PEEK, 1, 2);
        Check.due(x, Call.PEEK, 1, 4);
    }

    private static void perhapsEmpty() {
        Check.sentence("Terms 1", "Each has a NAME (a set of CELLS, perhaps empty)");
        Run x = new Run();
        x.happen(0);
        Check.due(x, Call.PEEK, 0, 1);
        Check.due(x, Call.ABOUT, 1, 0, 0);
        Check.due("owners", "64:0", x.owners());
        Check.due(x, Call.JOIN, 1, 0, 1);
        Check.due("owners", "64:1", x.owners());
        Check.due(x, Call.PEEK, 1, 0);
        Check.due("owners: 0 peeked", "64:1", x.owners());
        Check.due("heights", "64:1", x.heights(0));
    }

    private static void sixtyHappenings() {
        Check.sentence("Terms 1", "these are numbered 0, 1, .. as they come, 60 at most.");
        Run x = States.quarters();
        for (int e = 0; e < 60; e++) {
            Check.due(x, Call.COUNT, 2, e);
            Check.due(x, Call.HAPPEN, e % 4, e);
        }
        Check.due(x, Call.COUNT, 2, 60);
        for (int s = 0; s < 4; s++) {
            Check.refused(x, Call.HAPPEN, s, Check.FULL);
            Check.due("known", everyFourth(s), x.known(s));
        }
    }

    private static String everyFourth(int from) {
        StringBuilder text = new StringBuilder();
        for (int e = from; e < 60; e += 4) {
            text.append(e == from ? "" : " ").append(e);
        }
        return text.toString();
    }

    private static void atFirst() {
        Check.sentence("Terms 1", "At first there is STAMP 0 alone, with all CELLS, HEIGHTS 0, KNOWING nothing.");
        Run x = new Run();
        Check.due(x, Call.COUNT, 0, 1);
        Check.due(x, Call.COUNT, 1, 1);
        Check.due("owners", "64:0", x.owners());
        Check.due("heights", "64:0", x.heights(0));
        Check.due(x, Call.KNOWS, 0, -1, 0);
        for (int s = 1; s < 12; s++) {
            Check.refused(x, Call.PEEK, s, Check.UNKNOWN);
        }
    }

    private static void duePieces(String text, int pieces) {
        Line line = new Line(text);
        Check.due("about(a, 1) of " + text, pieces, line.run.about(line.number('a'), 1));
    }

    private static void pieces() {
        Check.sentence("Terms 1", "PIECES of a NAME: all SPANS that lie in it, and in no greater SPAN that does.");
        duePieces("a64:0", 1);
        duePieces("a63:0 b1:0", 6);
        duePieces("b1:0 a63:0", 6);
        duePieces("b1:0 a62:0 b1:0", 10);
        duePieces("b16:0 a32:0 b16:0", 2);
        duePieces("b31:0 a2:0 b31:0", 2);
        duePieces("b30:0 a2:0 b32:0", 1);
        duePieces("a1:0 b62:0 a1:0", 2);
        duePieces("a1:0 b1:0 ".repeat(32).trim(), 32);
        duePieces("b1:0 a2:0 b1:0 ".repeat(16).trim(), 32);
        duePieces("a3:0 b1:0 ".repeat(16).trim(), 32);
        Run x = new Run();
        x.peek(0);
        Check.due("about(1, 1) of an empty NAME", 0, x.about(1, 1));
    }

    private static void dueFork(String text, String lowerCells, String upperCells) {
        Line line = new Line(text);
        int lower = line.number('a');
        int upper = line.run.fork(lower);
        Check.due("what a keeps of " + text, lowerCells, cellsOf(line.run, lower));
        Check.due("what the new one has of " + text, upperCells, cellsOf(line.run, upper));
    }

    private static String cellsOf(Run x, int s) {
        Run other = x.again();
        StringBuilder text = new StringBuilder();
        for (int cell = 0; cell < 64; cell++) {
            if (other.owner(cell) == s) {
                text.append(text.length() == 0 ? "" : " ").append(cell);
            }
        }
        return text.toString();
    }

    private static void forkedNames() {
        Check.sentence("Terms 1", "the least SPAN that has all of it is halved; the one part is what it has in the "
            + "LOWER half, the other one what it has in the UPPER half.");
        dueFork("a2:0 b62:0", "0", "1");
        dueFork("b62:0 a2:0", "62", "63");
        dueFork("b1:0 a2:0 b61:0", "1", "2");
        dueFork("b31:0 a2:0 b31:0", "31", "32");
        dueFork("a1:0 b62:0 a1:0", "0", "63");
        dueFork("b3:0 a2:0 b59:0", "3", "4");
        dueFork("a3:0 b61:0", "0 1", "2");
        dueFork("b1:0 a3:0 b60:0", "1", "2 3");
        dueFork("b32:0 a1:0 b1:0 a1:0 b29:0", "32", "34");
        dueFork("b30:0 a4:0 b30:0", "30 31", "32 33");
        dueFork("b56:0 a1:0 b2:0 a1:0 b3:0 a1:0", "56 59", "63");
    }

    public static void main(String[] args) {
        usedFor512Calls();
        lastCallsCount();
        sixtyFourCells();
        spans();
        depths();
        halvesOfSpans();
        upTo12Stamps();
        leastFreeNumber();
        perhapsEmpty();
        sixtyHappenings();
        atFirst();
        pieces();
        forkedNames();
        Check.end();
    }
}
