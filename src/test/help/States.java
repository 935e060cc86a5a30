/** States that many tests begin with. */
final class States {
    private States() {
    }

    /** 0 has CELLS 0 to 31, 1 has 32 to 63. */
    static Run halves() {
        Run x = new Run();
        x.fork(0);
        return x;
    }

    /** 0 has CELLS 0 to 15, 2 has 16 to 31, 1 has 32 to 47, 3 has 48 to 63. */
    static Run quarters() {
        Run x = halves();
        x.fork(0);
        x.fork(1);
        return x;
    }

    /** 0 has CELL 0, 6 CELL 1, 5 has 2 and 3, 4 has 4 to 7, 3 has 8 to 15, 2 has 16 to 31, 1 the rest. */
    static Run ladder() {
        Run x = new Run();
        for (int i = 0; i < 6; i++) {
            x.fork(0);
        }
        return x;
    }

    /** The ladder, and five that peeked, 7 to 11, whose NAMES are empty: 12 in all. */
    static Run crowded() {
        Run x = ladder();
        for (int i = 0; i < 5; i++) {
            x.peek(1);
        }
        return x;
    }

    /** The halves, 2 that peeked at 0, and 60 HAPPENINGS, the even ones at 0, the odd ones at 1. */
    static Run after60() {
        Run x = halves();
        x.peek(0);
        for (int e = 0; e < 60; e++) {
            x.happen(e % 2);
        }
        return x;
    }

    /** a has every even CELL, b every odd one, and no two CELLS side by side have one HEIGHT. */
    static Line combs() {
        return new Line("a1:1 b1:0 ".repeat(32).trim());
    }
}
