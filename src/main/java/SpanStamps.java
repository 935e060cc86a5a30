/**
 * Stamps that tell what was known when.
 *
 * The words in capitals in the comments are those of the document.
 * A SPAN is given by its first CELL and its DEPTH; SPANS come only from halving
 * the SPAN of all CELLS, so their CELLS are always 0 to 63.
 * A NAME is a set of CELLS, one bit for each, and so is what a STAMP KNOWS.
 */
public final class SpanStamps {
    public static final int UNKNOWN = -1, OUTSIDE = -2, STATE = -3, FULL = -4, NO = -5, NONE = -6;

    private static final int CELLS = 64;
    private static final int DEEPEST = 6;
    private static final int MOST_STAMPS = 12;
    private static final int MOST_HAPPENINGS = 60;
    private static final int IMAGES = 2;
    private static final int COST_OF_A_LEVEL = 1000;
    private static final int HEIGHTS_DIFFER = 1000;
    private static final int NAME_DIFFERS = 2;
    private static final int HOW_MANY = -1;
    // 63 SPANS that are halved, two numbers each, and 64 CELLS
    private static final int LONGEST_ROW = 190;

    private final Circle now = new Circle();
    private final Circle[] images = new Circle[IMAGES];
    private int imagesKept = 0;
    // these two are made once and used again by every call that needs them
    private final Forecast forecast = new Forecast();
    private final Row row = new Row();

    public SpanStamps() {
        for (int k = 0; k < IMAGES; k++) {
            images[k] = new Circle();
        }
        now.stamps[0].present = true;
        now.stamps[0].cells = Span.cellsOf(0, 0);
    }

    // ---- 1 stamps

    public int fork(int s) {
        Stamp stamp = now.find(s);
        if (stamp == null) {
            return UNKNOWN;
        }
        if (stamp.cells == 0) {
            return STATE;
        }
        if (Long.bitCount(stamp.cells) == 1) {
            return NO;
        }
        long lower = Span.lowerPart(stamp.cells);
        int number = now.addLike(stamp, stamp.cells & ~lower);
        if (number != FULL) {
            stamp.cells = lower;
        }
        return number;
    }

    public int peek(int s) {
        Stamp stamp = now.find(s);
        if (stamp == null) {
            return UNKNOWN;
        }
        return now.addLike(stamp, 0);
    }

    public int happen(int s) {
        Stamp stamp = now.find(s);
        if (stamp == null) {
            return UNKNOWN;
        }
        if (stamp.cells == 0) {
            return STATE;
        }
        if (now.happenings >= MOST_HAPPENINGS) {
            return FULL;
        }
        forecast.lookAt(stamp);
        System.arraycopy(forecast.heights, 0, stamp.heights, 0, CELLS);
        int number = now.happenings;
        stamp.known |= 1L << number;
        now.happenings = number + 1;
        return number;
    }

    public int hear(int s, int t) {
        Stamp hearer = now.find(s);
        Stamp heard = now.find(t);
        if (hearer == null || heard == null) {
            return UNKNOWN;
        }
        if (s == t) {
            return OUTSIDE;
        }
        return hearer.learnFrom(heard);
    }

    public int join(int s, int t) {
        Stamp stays = now.find(s);
        Stamp goes = now.find(t);
        if (stays == null || goes == null) {
            return UNKNOWN;
        }
        if (s == t) {
            return OUTSIDE;
        }
        stays.learnFrom(goes);
        stays.cells |= goes.cells;
        goes.present = false;
        return now.howMany();
    }

    public int share(int s, int t) {
        Stamp one = now.find(s);
        Stamp other = now.find(t);
        if (one == null || other == null) {
            return UNKNOWN;
        }
        if (s == t) {
            return OUTSIDE;
        }
        long together = one.cells | other.cells;
        if (together == 0) {
            return STATE;
        }
        if (Long.bitCount(together) == 1) {
            return NO;
        }
        one.learnFrom(other);
        other.learnFrom(one);
        one.cells = Span.lowerPart(together);
        other.cells = together & ~one.cells;
        return Long.bitCount(one.cells);
    }

    public int drop(int s) {
        Stamp stamp = now.find(s);
        if (stamp == null) {
            return UNKNOWN;
        }
        if (stamp.cells != 0) {
            return NO;
        }
        stamp.present = false;
        return now.howMany();
    }

    // ---- 2 what is told

    public int order(int s, int t) {
        Stamp one = now.find(s);
        Stamp other = now.find(t);
        if (one == null || other == null) {
            return UNKNOWN;
        }
        return one.compareWith(other);
    }

    public int knows(int s, int e) {
        Stamp stamp = now.find(s);
        if (stamp == null) {
            return UNKNOWN;
        }
        if (e == HOW_MANY) {
            return Long.bitCount(stamp.known);
        }
        if (e < 0 || e >= now.happenings) {
            return OUTSIDE;
        }
        return (stamp.known & (1L << e)) != 0 ? 1 : 0;
    }

    public int height(int s, int cell) {
        Stamp stamp = now.find(s);
        if (stamp == null) {
            return UNKNOWN;
        }
        if (cell < 0 || cell >= CELLS) {
            return OUTSIDE;
        }
        return stamp.heights[cell];
    }

    public int owner(int cell) {
        if (cell < 0 || cell >= CELLS) {
            return OUTSIDE;
        }
        for (int s = 0; s < MOST_STAMPS; s++) {
            Stamp stamp = now.find(s);
            if (stamp != null && (stamp.cells & (1L << cell)) != 0) {
                return s;
            }
        }
        return NONE;
    }

    public int name(int s, int k) {
        Stamp stamp = now.find(s);
        if (stamp == null) {
            return UNKNOWN;
        }
        if (k < HOW_MANY) {
            return OUTSIDE;
        }
        row.size = 0;
        writeName(row, stamp.cells, 0, 0);
        return row.tell(k);
    }

    public int tree(int s, int k) {
        Stamp stamp = now.find(s);
        if (stamp == null) {
            return UNKNOWN;
        }
        if (k < HOW_MANY) {
            return OUTSIDE;
        }
        row.size = 0;
        writeHeights(row, stamp.heights, 0, 0, 0);
        return row.tell(k);
    }

    public int about(int s, int what) {
        Stamp stamp = now.find(s);
        if (stamp == null) {
            return UNKNOWN;
        }
        switch (what) {
            case 0:
                return Long.bitCount(stamp.cells);
            case 1:
                return Span.countPieces(stamp.cells);
            case 2:
                return Span.greatestOf(stamp.heights, 0, 0);
            case 3:
                return Span.leastOf(stamp.heights, 0, 0);
            case 4:
                return stamp.cells == 0 ? NONE : Span.depthAround(stamp.cells);
            default:
                return OUTSIDE;
        }
    }

    public int growth(int s, int what) {
        Stamp stamp = now.find(s);
        if (stamp == null) {
            return UNKNOWN;
        }
        if (what < 0 || what > 4) {
            return OUTSIDE;
        }
        if (stamp.cells == 0) {
            return STATE;
        }
        forecast.lookAt(stamp);
        switch (what) {
            case 0:
                return forecast.fills ? 1 : 0;
            case 1:
                return forecast.changed;
            case 2:
                return forecast.cost;
            case 3:
                return forecast.first;
            default:
                return forecast.depth;
        }
    }

    public int unlike(int what) {
        switch (what) {
            case 0:
                return now.countUnevenStamps();
            case 1:
                return now.countUnlikeNames();
            case 2:
                return now.countBeforeNone();
            default:
                return OUTSIDE;
        }
    }

    // ---- 3 images

    public int image(int k) {
        if (k < 0 || k >= IMAGES) {
            return OUTSIDE;
        }
        images[k].copyFrom(now);
        imagesKept |= 1 << k;
        return 1;
    }

    public int restore(int k) {
        if (k < 0 || k >= IMAGES) {
            return OUTSIDE;
        }
        if ((imagesKept & (1 << k)) == 0) {
            return STATE;
        }
        now.copyFrom(images[k]);
        return 1;
    }

    public int count(int what) {
        switch (what) {
            case 0:
                return now.howMany();
            case 1:
                return now.numbersInUse();
            case 2:
                return now.happenings;
            case 3:
                return imagesKept;
            default:
                return OUTSIDE;
        }
    }

    private static void writeName(Row row, long name, int first, int depth) {
        long span = Span.cellsOf(first, depth);
        if ((name & span) == 0) {
            row.add(0);
        } else if ((name & span) == span || depth >= DEEPEST) {
            row.add(1);
        } else {
            row.add(NAME_DIFFERS);
            writeName(row, name, first, depth + 1);
            writeName(row, name, Span.upperFirst(first, depth), depth + 1);
        }
    }

    private static void writeHeights(Row row, int[] heights, int first, int depth, int base) {
        int least = Span.leastOf(heights, first, depth);
        if (depth >= DEEPEST || Span.isAlike(heights, first, depth)) {
            row.add(least - base);
        } else {
            row.add(HEIGHTS_DIFFER);
            row.add(least - base);
            writeHeights(row, heights, first, depth + 1, least);
            writeHeights(row, heights, Span.upperFirst(first, depth), depth + 1, least);
        }
    }

    /** What SPANS, NAMES and HEIGHTS over SPANS are, told without any state. */
    private static final class Span {
        static int sizeOf(int depth) {
            return CELLS >> depth;
        }

        static long cellsOf(int first, int depth) {
            // a shift by 64 would be none, so the SPAN of all CELLS stands apart
            return depth == 0 ? -1L : ((1L << sizeOf(depth)) - 1) << first;
        }

        /** The first CELL of the UPPER half. */
        static int upperFirst(int first, int depth) {
            return first + sizeOf(depth + 1);
        }

        /** The first CELL of the SPAN of that DEPTH that has a CELL. */
        static int firstAround(int cell, int depth) {
            return cell & -sizeOf(depth);
        }

        static boolean liesIn(long name, int first, int depth) {
            return (cellsOf(first, depth) & ~name) == 0;
        }

        /** The DEPTH of the least SPAN that has all of a NAME, which is not empty. */
        static int depthAround(long name) {
            int cell = lowestCell(name);
            for (int depth = DEEPEST; depth > 0; depth--) {
                if ((name & ~cellsOf(firstAround(cell, depth), depth)) == 0) {
                    return depth;
                }
            }
            return 0;
        }

        /** What stays with the one who FORKS a NAME, which has more than one CELL. */
        static long lowerPart(long name) {
            int depth = depthAround(name);
            return name & cellsOf(firstAround(lowestCell(name), depth), depth + 1);
        }

        /** The least CELL of a NAME, which is not empty. */
        static int lowestCell(long name) {
            return Long.bitCount((name & -name) - 1);
        }

        static int countPieces(long name) {
            int pieces = 0;
            for (int cell = 0; cell < CELLS; cell++) {
                if (pieceDepth(name, cell) != NONE) {
                    pieces++;
                }
            }
            return pieces;
        }

        /** The DEPTH of the PIECE of a NAME that begins at a CELL; NONE: none begins there. */
        static int pieceDepth(long name, int cell) {
            for (int depth = 0; depth <= DEEPEST; depth++) {
                int first = firstAround(cell, depth);
                if (liesIn(name, first, depth)) {
                    return first == cell ? depth : NONE;
                }
            }
            return NONE;
        }

        static boolean isAlike(int[] heights, int first, int depth) {
            int end = first + sizeOf(depth);
            for (int cell = first + 1; cell < end; cell++) {
                if (heights[cell] != heights[first]) {
                    return false;
                }
            }
            return true;
        }

        static int greatestOf(int[] heights, int first, int depth) {
            int end = first + sizeOf(depth);
            int greatest = heights[first];
            for (int cell = first + 1; cell < end; cell++) {
                greatest = Math.max(greatest, heights[cell]);
            }
            return greatest;
        }

        static int leastOf(int[] heights, int first, int depth) {
            int end = first + sizeOf(depth);
            int least = heights[first];
            for (int cell = first + 1; cell < end; cell++) {
                least = Math.min(least, heights[cell]);
            }
            return least;
        }

        static void level(int[] heights, int first, int depth, int height) {
            int end = first + sizeOf(depth);
            for (int cell = first; cell < end; cell++) {
                heights[cell] = height;
            }
        }

        /** The DEPTH of the greatest SPAN with all HEIGHTS alike that has a PIECE. */
        static int alikeDepth(int[] heights, int first, int depth) {
            for (int wider = 0; wider < depth; wider++) {
                if (isAlike(heights, firstAround(first, wider), wider)) {
                    return wider;
                }
            }
            // where nothing was FILLED, a PIECE has all its HEIGHTS alike
            return depth;
        }
    }

    /** A STAMP, or the place for one. */
    private static final class Stamp {
        boolean present = false;
        long cells = 0;
        long known = 0;
        final int[] heights = new int[CELLS];

        void copyFrom(Stamp other) {
            present = other.present;
            cells = other.cells;
            known = other.known;
            System.arraycopy(other.heights, 0, heights, 0, CELLS);
        }

        /** HEARS another one, and tells how many HEIGHTS became greater. */
        int learnFrom(Stamp other) {
            int risen = 0;
            for (int cell = 0; cell < CELLS; cell++) {
                if (other.heights[cell] > heights[cell]) {
                    heights[cell] = other.heights[cell];
                    risen++;
                }
            }
            known |= other.known;
            return risen;
        }

        /** 0 EVEN, 1 BEFORE the other one, 2 the other one is BEFORE, 3 none of these. */
        int compareWith(Stamp other) {
            boolean anyLess = false;
            boolean anyGreater = false;
            for (int cell = 0; cell < CELLS; cell++) {
                anyLess = anyLess || heights[cell] < other.heights[cell];
                anyGreater = anyGreater || heights[cell] > other.heights[cell];
            }
            return (anyLess ? 1 : 0) + (anyGreater ? 2 : 0);
        }
    }

    /** All STAMPS, and how many HAPPENINGS there were: what an IMAGE keeps. */
    private static final class Circle {
        final Stamp[] stamps = new Stamp[MOST_STAMPS];
        int happenings = 0;

        Circle() {
            for (int s = 0; s < MOST_STAMPS; s++) {
                stamps[s] = new Stamp();
            }
        }

        /** The STAMP of that number, or null if there is none. */
        Stamp find(int s) {
            if (s < 0 || s >= MOST_STAMPS || !stamps[s].present) {
                return null;
            }
            return stamps[s];
        }

        /** The number of a new STAMP that is as another one but for its NAME, or FULL. */
        int addLike(Stamp model, long cells) {
            for (int s = 0; s < MOST_STAMPS; s++) {
                if (!stamps[s].present) {
                    stamps[s].copyFrom(model);
                    stamps[s].cells = cells;
                    return s;
                }
            }
            return FULL;
        }

        int numbersInUse() {
            int numbers = 0;
            for (int s = 0; s < MOST_STAMPS; s++) {
                if (stamps[s].present) {
                    numbers |= 1 << s;
                }
            }
            return numbers;
        }

        int howMany() {
            return Integer.bitCount(numbersInUse());
        }

        void copyFrom(Circle other) {
            for (int s = 0; s < MOST_STAMPS; s++) {
                stamps[s].copyFrom(other.stamps[s]);
            }
            happenings = other.happenings;
        }

        /** To be EVEN goes over from one to the next, so the first of each kind counts. */
        int countUnevenStamps() {
            int uneven = 0;
            for (int s = 0; s < MOST_STAMPS; s++) {
                if (stamps[s].present && !isEvenWithEarlier(s)) {
                    uneven++;
                }
            }
            return uneven;
        }

        private boolean isEvenWithEarlier(int s) {
            for (int t = 0; t < s; t++) {
                if (stamps[t].present && stamps[t].compareWith(stamps[s]) == 0) {
                    return true;
                }
            }
            return false;
        }

        int countUnlikeNames() {
            int names = 0;
            for (int s = 0; s < MOST_STAMPS; s++) {
                if (stamps[s].present && !isNamedAsEarlier(s)) {
                    names++;
                }
            }
            return names;
        }

        private boolean isNamedAsEarlier(int s) {
            for (int t = 0; t < s; t++) {
                if (stamps[t].present && stamps[t].cells == stamps[s].cells) {
                    return true;
                }
            }
            return false;
        }

        int countBeforeNone() {
            int latest = 0;
            for (int s = 0; s < MOST_STAMPS; s++) {
                if (stamps[s].present && !isBeforeAny(s)) {
                    latest++;
                }
            }
            return latest;
        }

        private boolean isBeforeAny(int s) {
            for (int t = 0; t < MOST_STAMPS; t++) {
                if (stamps[t].present && stamps[s].compareWith(stamps[t]) == 1) {
                    return true;
                }
            }
            return false;
        }
    }

    /** What a HAPPENING at a STAMP would do, worked out beside the STAMP. */
    private static final class Forecast {
        final int[] heights = new int[CELLS];
        boolean fills = false;
        int changed = 0;
        int cost = NONE;
        int first = NONE;
        int depth = NONE;

        /** The STAMP has a NAME that is not empty. */
        void lookAt(Stamp stamp) {
            System.arraycopy(stamp.heights, 0, heights, 0, CELLS);
            cost = NONE;
            first = NONE;
            depth = NONE;
            fill(heights, stamp.cells, 0, 0);
            changed = countChanges(stamp.heights);
            fills = changed > 0;
            if (!fills) {
                choosePiece(stamp.cells);
                raisePiece();
            }
        }

        private static void fill(int[] heights, long name, int first, int depth) {
            if (depth >= DEEPEST || (name & Span.cellsOf(first, depth)) == 0
                    || Span.isAlike(heights, first, depth)) {
                return;
            }
            int half = depth + 1;
            int upper = Span.upperFirst(first, depth);
            if (Span.liesIn(name, first, depth)) {
                Span.level(heights, first, depth, Span.greatestOf(heights, first, depth));
            } else if (Span.liesIn(name, first, half)) {
                fill(heights, name, upper, half);
                lift(heights, first, upper, half);
            } else if (Span.liesIn(name, upper, half)) {
                fill(heights, name, first, half);
                lift(heights, upper, first, half);
            } else {
                fill(heights, name, first, half);
                fill(heights, name, upper, half);
            }
        }

        /** Levels a half that lies in the NAME, at least as high as all of the other half. */
        private static void lift(int[] heights, int own, int other, int half) {
            int height = Math.max(Span.greatestOf(heights, own, half), Span.leastOf(heights, other, half));
            Span.level(heights, own, half, height);
        }

        private int countChanges(int[] before) {
            int changes = 0;
            for (int cell = 0; cell < CELLS; cell++) {
                if (heights[cell] != before[cell]) {
                    changes++;
                }
            }
            return changes;
        }

        private void choosePiece(long name) {
            for (int cell = 0; cell < CELLS; cell++) {
                int pieceDepth = Span.pieceDepth(name, cell);
                if (pieceDepth == NONE) {
                    continue;
                }
                int below = pieceDepth - Span.alikeDepth(heights, cell, pieceDepth);
                int pieceCost = pieceDepth + COST_OF_A_LEVEL * below;
                // of as little COST the later one, which has the greater CELLS
                if (cost == NONE || pieceCost <= cost) {
                    cost = pieceCost;
                    first = cell;
                    depth = pieceDepth;
                }
            }
        }

        private void raisePiece() {
            if (first == NONE) {
                return;
            }
            int end = first + Span.sizeOf(depth);
            for (int cell = first; cell < end; cell++) {
                heights[cell]++;
            }
            changed = Span.sizeOf(depth);
        }
    }

    /** The numbers of a TREE. */
    private static final class Row {
        final int[] numbers = new int[LONGEST_ROW];
        int size = 0;

        void add(int number) {
            if (size < LONGEST_ROW) {
                numbers[size] = number;
                size++;
            }
        }

        /** The k-th number, NONE if there is none such; how many there are, if that is asked. */
        int tell(int k) {
            if (k == HOW_MANY) {
                return size;
            }
            return k >= 0 && k < size ? numbers[k] : NONE;
        }
    }
}
