import java.util.ArrayList;
import java.util.Arrays;
import java.util.HashSet;
import java.util.List;
import java.util.Random;
import java.util.Set;
import java.util.TreeMap;
import java.util.TreeSet;

/**
 * Long runs of calls, each answer held against a model that follows the document's words
 * by sets and lists, and shares nothing with the class. The seeds are fixed.
 */
public final class ModelTest {
    private static final int RUNS = 1000;
    private static final int CALLS = 512;
    private static final int UNKNOWN = -1;
    private static final int OUTSIDE = -2;
    private static final int STATE = -3;
    private static final int FULL = -4;
    private static final int NO = -5;
    private static final int NONE = -6;

    /** CELLS from first on, so many. */
    private record Range(int first, int size) {
        Range lower() {
            return new Range(first, size / 2);
        }

        Range upper() {
            return new Range(first + size / 2, size / 2);
        }

        int depth() {
            int depth = 0;
            for (int cells = 64; cells > size; cells /= 2) {
                depth++;
            }
            return depth;
        }

        Set<Integer> cells() {
            Set<Integer> cells = new TreeSet<>();
            for (int cell = first; cell < first + size; cell++) {
                cells.add(cell);
            }
            return cells;
        }

        boolean has(Range other) {
            return first <= other.first && other.first + other.size <= first + size;
        }
    }

    private static final Range ALL = new Range(0, 64);
    private static final List<Range> RANGES = allRanges();

    /** The greater ones first. */
    private static List<Range> allRanges() {
        List<Range> ranges = new ArrayList<>();
        for (int size = 64; size >= 1; size /= 2) {
            for (int first = 0; first < 64; first += size) {
                ranges.add(new Range(first, size));
            }
        }
        return ranges;
    }

    private static final class Holder {
        final Set<Integer> name = new TreeSet<>();
        final List<Integer> heights = new ArrayList<>();
        final Set<Integer> known = new TreeSet<>();

        Holder copy() {
            Holder copy = new Holder();
            copy.name.addAll(name);
            copy.heights.addAll(heights);
            copy.known.addAll(known);
            return copy;
        }

        List<Integer> over(Range range) {
            return heights.subList(range.first, range.first + range.size);
        }

        boolean alike(Range range) {
            return new HashSet<>(over(range)).size() == 1;
        }

        int greatest(Range range) {
            return new TreeSet<>(over(range)).last();
        }

        int least(Range range) {
            return new TreeSet<>(over(range)).first();
        }

        boolean owns(Range range) {
            return name.containsAll(range.cells());
        }

        void set(Range range, int height) {
            for (int cell : range.cells()) {
                heights.set(cell, height);
            }
        }

        List<Range> pieces() {
            List<Range> pieces = new ArrayList<>();
            for (Range range : RANGES) {
                if (owns(range) && pieces.stream().noneMatch(piece -> piece.has(range))) {
                    pieces.add(range);
                }
            }
            return pieces;
        }

        int hears(Holder other) {
            int risen = 0;
            for (int cell = 0; cell < 64; cell++) {
                if (other.heights.get(cell) > heights.get(cell)) {
                    heights.set(cell, other.heights.get(cell));
                    risen++;
                }
            }
            known.addAll(other.known);
            return risen;
        }

        boolean before(Holder other) {
            for (int cell = 0; cell < 64; cell++) {
                if (heights.get(cell) > other.heights.get(cell)) {
                    return false;
                }
            }
            return !heights.equals(other.heights);
        }

        void fill(Range range) {
            boolean none = range.cells().stream().noneMatch(name::contains);
            if (none || alike(range)) {
                return;
            }
            if (owns(range)) {
                set(range, greatest(range));
            } else if (owns(range.lower())) {
                fill(range.upper());
                set(range.lower(), Math.max(greatest(range.lower()), least(range.upper())));
            } else if (owns(range.upper())) {
                fill(range.lower());
                set(range.upper(), Math.max(greatest(range.upper()), least(range.lower())));
            } else {
                fill(range.lower());
                fill(range.upper());
            }
        }

        int cost(Range piece) {
            for (Range range : RANGES) {
                if (range.has(piece) && alike(range)) {
                    return piece.depth() + 1000 * (piece.depth() - range.depth());
                }
            }
            throw new IllegalStateException("a piece that is not alike is left to grow");
        }

        Range cheapest() {
            Range best = null;
            for (Range piece : pieces()) {
                if (best == null || cost(piece) < cost(best)
                        || cost(piece) == cost(best) && piece.first > best.first) {
                    best = piece;
                }
            }
            return best;
        }

        /** The five answers of growth; the heights are then as they would be. */
        int[] raise() {
            List<Integer> old = new ArrayList<>(heights);
            fill(ALL);
            if (!heights.equals(old)) {
                return new int[] {1, changes(old), NONE, NONE, NONE};
            }
            Range piece = cheapest();
            int cost = cost(piece);
            for (int cell : piece.cells()) {
                heights.set(cell, heights.get(cell) + 1);
            }
            return new int[] {0, changes(old), cost, piece.first, piece.depth()};
        }

        int changes(List<Integer> old) {
            int changes = 0;
            for (int cell = 0; cell < 64; cell++) {
                changes += heights.get(cell).equals(old.get(cell)) ? 0 : 1;
            }
            return changes;
        }

        List<Integer> nameTree(Range range) {
            Set<Integer> part = new TreeSet<>(range.cells());
            part.retainAll(name);
            if (part.isEmpty()) {
                return List.of(0);
            }
            if (part.size() == range.size) {
                return List.of(1);
            }
            List<Integer> tree = new ArrayList<>(List.of(2));
            tree.addAll(nameTree(range.lower()));
            tree.addAll(nameTree(range.upper()));
            return tree;
        }

        List<Integer> heightTree(Range range, int above) {
            int least = least(range);
            if (alike(range)) {
                return List.of(least - above);
            }
            List<Integer> tree = new ArrayList<>(List.of(1000, least - above));
            tree.addAll(heightTree(range.lower(), least));
            tree.addAll(heightTree(range.upper(), least));
            return tree;
        }
    }

    private static Range around(Set<Integer> name) {
        Range least = ALL;
        for (Range range : RANGES) {
            if (range.cells().containsAll(name)) {
                least = range;
            }
        }
        return least;
    }

    private static Set<Integer> within(Set<Integer> name, Range range) {
        Set<Integer> part = new TreeSet<>(name);
        part.retainAll(range.cells());
        return part;
    }

    private static final class Model {
        private TreeMap<Integer, Holder> stamps = new TreeMap<>();
        private int happenings = 0;
        private final List<TreeMap<Integer, Holder>> images = new ArrayList<>(Arrays.asList(null, null));
        private final int[] imageHappenings = new int[2];

        Model() {
            Holder first = new Holder();
            first.name.addAll(ALL.cells());
            for (int cell = 0; cell < 64; cell++) {
                first.heights.add(0);
            }
            stamps.put(0, first);
        }

        private int add(Holder holder) {
            int number = 0;
            while (stamps.containsKey(number)) {
                number++;
            }
            stamps.put(number, holder);
            return number;
        }

        private static TreeMap<Integer, Holder> copy(TreeMap<Integer, Holder> stamps) {
            TreeMap<Integer, Holder> copy = new TreeMap<>();
            stamps.forEach((number, holder) -> copy.put(number, holder.copy()));
            return copy;
        }

        int fork(int s) {
            Holder holder = stamps.get(s);
            if (holder == null) {
                return UNKNOWN;
            }
            if (holder.name.size() < 2) {
                return holder.name.isEmpty() ? STATE : NO;
            }
            if (stamps.size() == 12) {
                return FULL;
            }
            Range around = around(holder.name);
            Holder fresh = holder.copy();
            fresh.name.retainAll(around.upper().cells());
            holder.name.retainAll(around.lower().cells());
            return add(fresh);
        }

        int peek(int s) {
            Holder holder = stamps.get(s);
            if (holder == null) {
                return UNKNOWN;
            }
            if (stamps.size() == 12) {
                return FULL;
            }
            Holder fresh = holder.copy();
            fresh.name.clear();
            return add(fresh);
        }

        int happen(int s) {
            Holder holder = stamps.get(s);
            if (holder == null) {
                return UNKNOWN;
            }
            if (holder.name.isEmpty()) {
                return STATE;
            }
            if (happenings == 60) {
                return FULL;
            }
            holder.raise();
            holder.known.add(happenings);
            return happenings++;
        }

        private int pairFault(int s, int t) {
            if (!stamps.containsKey(s) || !stamps.containsKey(t)) {
                return UNKNOWN;
            }
            return s == t ? OUTSIDE : 0;
        }

        int hear(int s, int t) {
            int fault = pairFault(s, t);
            return fault != 0 ? fault : stamps.get(s).hears(stamps.get(t));
        }

        int join(int s, int t) {
            int fault = pairFault(s, t);
            if (fault != 0) {
                return fault;
            }
            Holder goes = stamps.remove(t);
            stamps.get(s).hears(goes);
            stamps.get(s).name.addAll(goes.name);
            return stamps.size();
        }

        int share(int s, int t) {
            int fault = pairFault(s, t);
            if (fault != 0) {
                return fault;
            }
            Holder one = stamps.get(s);
            Holder other = stamps.get(t);
            Set<Integer> both = new TreeSet<>(one.name);
            both.addAll(other.name);
            if (both.size() < 2) {
                return both.isEmpty() ? STATE : NO;
            }
            one.hears(other);
            other.hears(one);
            Range around = around(both);
            one.name.clear();
            one.name.addAll(within(both, around.lower()));
            other.name.clear();
            other.name.addAll(within(both, around.upper()));
            return one.name.size();
        }

        int drop(int s) {
            Holder holder = stamps.get(s);
            if (holder == null) {
                return UNKNOWN;
            }
            if (!holder.name.isEmpty()) {
                return NO;
            }
            stamps.remove(s);
            return stamps.size();
        }

        int order(int s, int t) {
            Holder one = stamps.get(s);
            Holder other = stamps.get(t);
            if (one == null || other == null) {
                return UNKNOWN;
            }
            if (one.heights.equals(other.heights)) {
                return 0;
            }
            return one.before(other) ? 1 : other.before(one) ? 2 : 3;
        }

        int knows(int s, int e) {
            Holder holder = stamps.get(s);
            if (holder == null) {
                return UNKNOWN;
            }
            if (e == -1) {
                return holder.known.size();
            }
            if (e < -1 || e >= happenings) {
                return OUTSIDE;
            }
            return holder.known.contains(e) ? 1 : 0;
        }

        int height(int s, int cell) {
            if (!stamps.containsKey(s)) {
                return UNKNOWN;
            }
            return cell < 0 || cell > 63 ? OUTSIDE : stamps.get(s).heights.get(cell);
        }

        int owner(int cell) {
            if (cell < 0 || cell > 63) {
                return OUTSIDE;
            }
            for (int s : stamps.keySet()) {
                if (stamps.get(s).name.contains(cell)) {
                    return s;
                }
            }
            return NONE;
        }

        private static int fromTree(List<Integer> tree, int k) {
            return k == -1 ? tree.size() : k < tree.size() ? tree.get(k) : NONE;
        }

        int name(int s, int k) {
            if (!stamps.containsKey(s)) {
                return UNKNOWN;
            }
            return k < -1 ? OUTSIDE : fromTree(stamps.get(s).nameTree(ALL), k);
        }

        int tree(int s, int k) {
            if (!stamps.containsKey(s)) {
                return UNKNOWN;
            }
            return k < -1 ? OUTSIDE : fromTree(stamps.get(s).heightTree(ALL, 0), k);
        }

        int about(int s, int what) {
            Holder holder = stamps.get(s);
            if (holder == null) {
                return UNKNOWN;
            }
            return switch (what) {
                case 0 -> holder.name.size();
                case 1 -> holder.pieces().size();
                case 2 -> holder.greatest(ALL);
                case 3 -> holder.least(ALL);
                case 4 -> holder.name.isEmpty() ? NONE : around(holder.name).depth();
                default -> OUTSIDE;
            };
        }

        int growth(int s, int what) {
            Holder holder = stamps.get(s);
            if (holder == null) {
                return UNKNOWN;
            }
            if (what < 0 || what > 4) {
                return OUTSIDE;
            }
            return holder.name.isEmpty() ? STATE : holder.copy().raise()[what];
        }

        int unlike(int what) {
            Set<Object> kinds = new HashSet<>();
            int latest = 0;
            for (Holder holder : stamps.values()) {
                kinds.add(what == 0 ? holder.heights : holder.name);
                latest += stamps.values().stream().anyMatch(holder::before) ? 0 : 1;
            }
            return what < 0 || what > 2 ? OUTSIDE : what == 2 ? latest : kinds.size();
        }

        int image(int k) {
            if (k != 0 && k != 1) {
                return OUTSIDE;
            }
            images.set(k, copy(stamps));
            imageHappenings[k] = happenings;
            return 1;
        }

        int restore(int k) {
            if (k != 0 && k != 1) {
                return OUTSIDE;
            }
            if (images.get(k) == null) {
                return STATE;
            }
            stamps = copy(images.get(k));
            happenings = imageHappenings[k];
            return 1;
        }

        int count(int what) {
            int numbers = 0;
            for (int s : stamps.keySet()) {
                numbers += 1 << s;
            }
            return switch (what) {
                case 0 -> stamps.size();
                case 1 -> numbers;
                case 2 -> happenings;
                case 3 -> (images.get(0) == null ? 0 : 1) + (images.get(1) == null ? 0 : 2);
                default -> OUTSIDE;
            };
        }
    }

    private static final String[] NAMES = {"fork", "peek", "happen", "hear", "join", "share", "drop", "order",
        "knows", "height", "owner", "name", "tree", "about", "growth", "unlike", "image", "restore", "count"};

    private static int ask(SpanStamps x, int call, int a, int b) {
        return switch (call) {
            case 0 -> x.fork(a);
            case 1 -> x.peek(a);
            case 2 -> x.happen(a);
            case 3 -> x.hear(a, b);
            case 4 -> x.join(a, b);
            case 5 -> x.share(a, b);
            case 6 -> x.drop(a);
            case 7 -> x.order(a, b);
            case 8 -> x.knows(a, b);
            case 9 -> x.height(a, b);
            case 10 -> x.owner(a);
            case 11 -> x.name(a, b);
            case 12 -> x.tree(a, b);
            case 13 -> x.about(a, b);
            case 14 -> x.growth(a, b);
            case 15 -> x.unlike(a);
            case 16 -> x.image(a);
            case 17 -> x.restore(a);
            default -> x.count(a);
        };
    }

    private static int ask(Model x, int call, int a, int b) {
        return switch (call) {
            case 0 -> x.fork(a);
            case 1 -> x.peek(a);
            case 2 -> x.happen(a);
            case 3 -> x.hear(a, b);
            case 4 -> x.join(a, b);
            case 5 -> x.share(a, b);
            case 6 -> x.drop(a);
            case 7 -> x.order(a, b);
            case 8 -> x.knows(a, b);
            case 9 -> x.height(a, b);
            case 10 -> x.owner(a);
            case 11 -> x.name(a, b);
            case 12 -> x.tree(a, b);
            case 13 -> x.about(a, b);
            case 14 -> x.growth(a, b);
            case 15 -> x.unlike(a);
            case 16 -> x.image(a);
            case 17 -> x.restore(a);
            default -> x.count(a);
        };
    }

    private static boolean isOfStamp(int call) {
        return call != 10 && call < 15;
    }

    private static int firstNumber(Random random, int call, List<Integer> present) {
        if (random.nextInt(60) == 0) {
            return odd(random);
        }
        if (isOfStamp(call)) {
            return random.nextInt(12) == 0 ? random.nextInt(13) : present.get(random.nextInt(present.size()));
        }
        return call == 10 ? random.nextInt(64) : random.nextInt(call == 18 ? 4 : call == 15 ? 3 : 2);
    }

    private static int secondNumber(Random random, int call, Model model, List<Integer> present, int s) {
        if (random.nextInt(60) == 0) {
            return odd(random);
        }
        return switch (call) {
            case 3, 4, 5, 7 -> firstNumber(random, call, present);
            case 8 -> random.nextInt(model.count(2) + 3) - 2;
            case 9 -> random.nextInt(64);
            case 11 -> random.nextInt(Math.max(1, model.name(s, -1)) + 3) - 2;
            case 12 -> random.nextInt(Math.max(1, model.tree(s, -1)) + 3) - 2;
            default -> random.nextInt(6) - (random.nextInt(9) == 0 ? 1 : 0);
        };
    }

    private static int odd(Random random) {
        int[] odd = {-2, -1, 64, 65, 12, 5, Integer.MIN_VALUE, Integer.MAX_VALUE, random.nextInt()};
        return odd[random.nextInt(odd.length)];
    }

    /** Runs differ in how much of each call they have, so that many kinds of states come up. */
    private static int[] weights(Random random) {
        int[] weights = new int[NAMES.length];
        for (int call = 0; call < weights.length; call++) {
            weights[call] = 1 + random.nextInt(4);
        }
        weights[0] += random.nextInt(6);
        weights[1] = random.nextInt(2);
        weights[2] += random.nextInt(4);
        weights[3] += random.nextInt(6);
        weights[4] += random.nextInt(3);
        weights[5] = random.nextInt(4);
        weights[12] += random.nextInt(5);
        weights[14] += random.nextInt(8);
        weights[16] = random.nextInt(2);
        weights[17] = random.nextInt(2);
        return weights;
    }

    private static int pick(Random random, int[] weights) {
        int at = random.nextInt(Arrays.stream(weights).sum());
        int call = 0;
        while (at >= weights[call]) {
            at -= weights[call];
            call++;
        }
        return call;
    }

    private static boolean runIsAsDue(int seed) {
        Random random = new Random(seed);
        SpanStamps real = new SpanStamps();
        Model model = new Model();
        int[] weights = weights(random);
        for (int i = 0; i < CALLS; i++) {
            List<Integer> present = new ArrayList<>(model.stamps.keySet());
            int call = pick(random, weights);
            int a = firstNumber(random, call, present);
            int b = secondNumber(random, call, model, present, a);
            int want = ask(model, call, a, b);
            int got = ask(real, call, a, b);
            if (got != want) {
                System.out.println("seed " + seed + ", call " + i + ": " + NAMES[call] + "(" + a + ", " + b
                    + ") answered " + got + ", due is " + want);
                return false;
            }
        }
        return true;
    }

    public static void main(String[] args) {
        int wrong = 0;
        for (int seed = 0; seed < RUNS && wrong < 10; seed++) {
            wrong += runIsAsDue(seed) ? 0 : 1;
        }
        System.out.println(RUNS + " runs of " + CALLS + " calls, " + wrong + " not as due");
        if (wrong != 0) {
            System.exit(1);
        }
    }
}
