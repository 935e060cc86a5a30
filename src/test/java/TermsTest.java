import java.util.ArrayList;
import java.util.Arrays;
import java.util.List;
import java.util.Random;
import java.util.Set;
import java.util.TreeSet;

/**
 * The first paragraph of the terms tells what holds always: each of its sentences is looked at after every call of
 * long runs with fixed seeds. The rows of TREES are read back here, not written a second time.
 */
public final class TermsTest {
    private static final int RUNS = 40;
    private static final int STEPS = 110;
    private static final Call[] CHANGES = {
        Call.FORK, Call.FORK, Call.FORK, Call.HAPPEN, Call.HAPPEN, Call.HAPPEN, Call.HAPPEN, Call.HEAR, Call.HEAR,
        Call.HEAR, Call.JOIN, Call.JOIN, Call.SHARE, Call.PEEK, Call.DROP, Call.IMAGE, Call.RESTORE};

    private record Asked(Call call, int a, int b, int answer) {
        boolean stands(Call wanted) {
            return call == wanted && answer >= 0;
        }

        @Override
        public String toString() {
            return call.text(a, b);
        }
    }

    private interface Look {
        void at(Run before, Asked asked, Run after);
    }

    private static void walk(Look look) {
        for (int seed = 0; seed < RUNS; seed++) {
            Random random = new Random(seed);
            Run x = new Run();
            for (int i = 0; i < STEPS; i++) {
                Run before = x.again();
                Call call = CHANGES[random.nextInt(CHANGES.length)];
                List<Integer> present = present(x);
                boolean ofImage = call == Call.IMAGE || call == Call.RESTORE;
                int a = ofImage ? random.nextInt(2) : present.get(random.nextInt(present.size()));
                int b = present.get(random.nextInt(present.size()));
                look.at(before, new Asked(call, a, b, x.make(call, a, b)), x);
            }
        }
    }

    private static List<Integer> present(Run x) {
        int numbers = x.again().count(1);
        List<Integer> present = new ArrayList<>();
        for (int s = 0; s < Run.STAMPS; s++) {
            if ((numbers & 1 << s) != 0) {
                present.add(s);
            }
        }
        return present;
    }

    private static int[] heights(Run x, int s) {
        Run other = x.again();
        int[] heights = new int[Run.CELLS];
        for (int cell = 0; cell < Run.CELLS; cell++) {
            heights[cell] = other.height(s, cell);
        }
        return heights;
    }

    private static Set<Integer> name(Run x, int s) {
        Run other = x.again();
        Set<Integer> name = new TreeSet<>();
        for (int cell = 0; cell < Run.CELLS; cell++) {
            if (other.owner(cell) == s) {
                name.add(cell);
            }
        }
        return name;
    }

    private static Set<Integer> together(Set<Integer> one, Set<Integer> other) {
        Set<Integer> both = new TreeSet<>(one);
        both.addAll(other);
        return both;
    }

    private static void holds(String what, boolean holds) {
        Check.due(what, 1, holds ? 1 : 0);
    }

    private static void namesAreNobodyElses() {
        Check.sentence("Terms", "Each stamp has a name, a part of one line that nobody else has, and heights over all "
            + "of the line;");
        walk((before, asked, after) -> {
            int[] owners = new int[Run.CELLS];
            for (int s : present(after)) {
                Reader reader = new Reader(after.nameRow(s));
                reader.name(0, Run.CELLS);
                for (int cell = 0; cell < Run.CELLS; cell++) {
                    owners[cell] += reader.told[cell];
                }
                holds("HEIGHTS of " + s + " are 0 or more after " + asked, Arrays.stream(heights(after, s)).min()
                    .getAsInt() >= 0);
            }
            for (int cell = 0; cell < Run.CELLS; cell++) {
                Check.due("how many have CELL " + cell + " after " + asked, 1, owners[cell]);
            }
        });
    }

    private static void namesAreForkedOrJoined() {
        Check.sentence("Terms", "a name is forked in two, or two become one;");
        walk((before, asked, after) -> {
            if (asked.stands(Call.FORK)) {
                dueForked(name(before, asked.a), name(after, asked.a), name(after, asked.answer), asked.toString());
            } else if (asked.stands(Call.SHARE)) {
                dueForked(together(name(before, asked.a), name(before, asked.b)), name(after, asked.a),
                    name(after, asked.b), asked.toString());
            } else if (asked.stands(Call.JOIN)) {
                holds(asked + " makes one NAME of two", name(after, asked.a)
                    .equals(together(name(before, asked.a), name(before, asked.b))));
                holds(asked + " makes one go", !present(after).contains(asked.b));
            }
        });
    }

    private static void dueForked(Set<Integer> whole, Set<Integer> lower, Set<Integer> upper, String call) {
        holds(call + " gives away all", whole.equals(together(lower, upper)));
        holds(call + " leaves no part empty", !lower.isEmpty() && !upper.isEmpty());
        holds(call + " puts the lesser CELLS first",
            new TreeSet<>(lower).last() < new TreeSet<>(upper).first());
    }

    private static void heightsRiseWithinTheName() {
        Check.sentence("Terms", "what happens to a stamp raises its heights within its name");
        walk((before, asked, after) -> {
            if (!asked.stands(Call.HAPPEN)) {
                return;
            }
            Set<Integer> name = name(before, asked.a);
            int[] old = heights(before, asked.a);
            int[] now = heights(after, asked.a);
            int risen = 0;
            for (int cell = 0; cell < Run.CELLS; cell++) {
                holds(asked + " at CELL " + cell, now[cell] == old[cell] || now[cell] > old[cell] && name.contains(cell));
                risen += now[cell] > old[cell] ? 1 : 0;
            }
            holds(asked + " raises any", risen > 0);
            Check.due("growth(" + asked.a + ", 1) ahead of " + asked, risen, before.again().growth(asked.a, 1));
            for (int s : present(after)) {
                holds(asked + " leaves " + s, s == asked.a || Arrays.equals(heights(before, s), heights(after, s)));
            }
        });
    }

    /** A FILL never makes the TREE longer, and no other PIECE would GROW to a shorter one. */
    private static void heightsStaySimplest() {
        Check.sentence("Terms", "in that way that keeps them simplest;");
        walk((before, asked, after) -> {
            if (!asked.stands(Call.HAPPEN)) {
                return;
            }
            int length = after.again().tree(asked.a, -1);
            if (before.again().growth(asked.a, 0) == 1) {
                holds(asked + " FILLS to a TREE that is no longer", length <= before.again().tree(asked.a, -1));
                return;
            }
            Set<Integer> name = name(before, asked.a);
            int shortest = Integer.MAX_VALUE;
            for (int size = Run.CELLS; size >= 1; size /= 2) {
                for (int first = 0; first < Run.CELLS; first += size) {
                    if (isPiece(name, first, size)) {
                        int[] raised = heights(before, asked.a);
                        for (int cell = first; cell < first + size; cell++) {
                            raised[cell]++;
                        }
                        shortest = Math.min(shortest, rowLength(raised, 0, Run.CELLS));
                    }
                }
            }
            Check.due("numbers of the TREE after " + asked, shortest, length);
        });
    }

    private static boolean liesIn(Set<Integer> name, int first, int size) {
        for (int cell = first; cell < first + size; cell++) {
            if (!name.contains(cell)) {
                return false;
            }
        }
        return true;
    }

    private static boolean isPiece(Set<Integer> name, int first, int size) {
        int twice = 2 * size;
        return liesIn(name, first, size) && (size == Run.CELLS || !liesIn(name, first / twice * twice, twice));
    }

    private static int rowLength(int[] heights, int first, int size) {
        for (int cell = first + 1; cell < first + size; cell++) {
            if (heights[cell] != heights[first]) {
                return 2 + rowLength(heights, first, size / 2) + rowLength(heights, first + size / 2, size / 2);
            }
        }
        return 1;
    }

    private static void theHigherOfBoth() {
        Check.sentence("Terms", "what one hears from another one is the higher of both everywhere.");
        walk((before, asked, after) -> {
            if (asked.stands(Call.HEAR) || asked.stands(Call.JOIN) || asked.stands(Call.SHARE)) {
                int[] one = heights(before, asked.a);
                int[] other = heights(before, asked.b);
                int[] higher = new int[Run.CELLS];
                int risen = 0;
                for (int cell = 0; cell < Run.CELLS; cell++) {
                    higher[cell] = Math.max(one[cell], other[cell]);
                    risen += higher[cell] > one[cell] ? 1 : 0;
                }
                holds(asked + " raises the one who hears", Arrays.equals(higher, heights(after, asked.a)));
                if (asked.call == Call.HEAR) {
                    Check.due(asked.toString(), risen, asked.answer);
                    holds(asked + " leaves the one who is heard", Arrays.equals(other, heights(after, asked.b)));
                }
                if (asked.call == Call.SHARE) {
                    holds(asked + " raises the other one, too", Arrays.equals(higher, heights(after, asked.b)));
                }
            }
        });
    }

    private static void treesAreShortest() {
        Check.sentence("Terms", "Names and heights are told as trees that are shortest, number by number.");
        walk((before, asked, after) -> {
            for (int s : present(after)) {
                Reader names = new Reader(after.nameRow(s));
                names.name(0, Run.CELLS);
                names.dueAtEnd("NAME of " + s + " after " + asked);
                holds("the NAME of " + s + " is told after " + asked, names.cells().equals(name(after, s)));
                Reader trees = new Reader(after.treeRow(s));
                trees.heights(0, Run.CELLS, 0);
                trees.dueAtEnd("HEIGHTS of " + s + " after " + asked);
                holds("the HEIGHTS of " + s + " are told after " + asked, Arrays.equals(trees.told, heights(after, s)));
            }
        });
    }

    /** What a row tells of a SPAN: whether by one number, and the least of what it tells there. */
    private record Part(boolean whole, int least) {
    }

    /** Reads the row of a TREE back to what it tells of each CELL. */
    private static final class Reader {
        final int[] told = new int[Run.CELLS];
        private final String[] numbers;
        private int at = 0;
        private boolean shortest = true;

        Reader(String row) {
            numbers = row.split(" ");
        }

        private int next() {
            return at < numbers.length ? Integer.parseInt(numbers[at++]) : missing();
        }

        private int missing() {
            shortest = false;
            return 0;
        }

        Part name(int first, int size) {
            int number = next();
            if (number != 2 || size == 1) {
                Arrays.fill(told, first, first + size, number);
                return new Part(true, number);
            }
            Part lower = name(first, size / 2);
            Part upper = name(first + size / 2, size / 2);
            return halved(lower, upper, Math.min(lower.least, upper.least));
        }

        Part heights(int first, int size, int above) {
            int number = next();
            if (number != 1000 || size == 1) {
                Arrays.fill(told, first, first + size, above + number);
                return new Part(true, above + number);
            }
            int least = above + next();
            return halved(heights(first, size / 2, least), heights(first + size / 2, size / 2, least), least);
        }

        /** A SPAN is halved only where the halves are unlike, and has its least in one of them. */
        private Part halved(Part lower, Part upper, int least) {
            boolean needless = lower.whole && upper.whole && lower.least == upper.least;
            shortest = shortest && !needless && Math.min(lower.least, upper.least) == least;
            return new Part(false, least);
        }

        Set<Integer> cells() {
            Set<Integer> cells = new TreeSet<>();
            for (int cell = 0; cell < Run.CELLS; cell++) {
                if (told[cell] == 1) {
                    cells.add(cell);
                }
            }
            return cells;
        }

        void dueAtEnd(String what) {
            Check.due("numbers read of the TREE, " + what, numbers.length, at);
            holds("the TREE is shortest, " + what, shortest);
        }
    }

    public static void main(String[] args) {
        namesAreNobodyElses();
        namesAreForkedOrJoined();
        heightsRiseWithinTheName();
        heightsStaySimplest();
        theHigherOfBoth();
        treesAreShortest();
        Check.end();
    }
}
