import java.util.ArrayList;
import java.util.List;

/**
 * Which refusal comes first, and that no refused call changes anything: in several states, for every call, over
 * a grid of numbers that has the least and the greatest int. What is due is told from a few facts about a state.
 */
public final class RefusalTest {
    /** So many refused calls are made on one object before everything is looked at. */
    private static final int BATCH = 100;
    private static final int[] GRID = {
        Check.MIN, Check.MIN + 1, -(1 << 16), -65, -64, -33, -32, -13, -12, -6, -3, -2, -1, 0, 1, 2, 3, 4, 5, 6, 7, 8,
        11, 12, 13, 16, 31, 32, 33, 58, 59, 60, 61, 63, 64, 65, 127, 128, 190, 1 << 16, Check.MAX - 1, Check.MAX};

    private record Asked(Call call, int a, int b, int want) {
    }

    /** What the refusals of a state depend on; a STAMP that is not there has -1 CELLS. */
    private record Facts(int[] cells, int happenings, int images) {
        boolean unknown(int s) {
            return s < 0 || s >= cells.length || cells[s] < 0;
        }

        boolean full() {
            int stamps = 0;
            for (int count : cells) {
                stamps += count < 0 ? 0 : 1;
            }
            return stamps == 12;
        }
    }

    private static boolean beyond(int number, int least, int most) {
        return number < least || number > most;
    }

    /** The refusal that is due, or 0 if the call is not refused. */
    private static int refusal(Facts facts, Call call, int a, int b) {
        boolean ofStamp = call != Call.OWNER && call.compareTo(Call.UNLIKE) < 0;
        boolean ofTwo = call == Call.HEAR || call == Call.JOIN || call == Call.SHARE || call == Call.ORDER;
        if (ofStamp && facts.unknown(a) || ofTwo && facts.unknown(b)) {
            return Check.UNKNOWN;
        }
        return switch (call) {
            case FORK -> {
                int cells = facts.cells[a];
                yield cells == 0 ? Check.STATE : cells == 1 ? Check.NO : facts.full() ? Check.FULL : 0;
            }
            case PEEK -> facts.full() ? Check.FULL : 0;
            case HAPPEN -> facts.cells[a] == 0 ? Check.STATE : facts.happenings == 60 ? Check.FULL : 0;
            case HEAR, JOIN -> a == b ? Check.OUTSIDE : 0;
            case SHARE -> {
                int cells = facts.cells[a] + facts.cells[b];
                yield a == b ? Check.OUTSIDE : cells == 0 ? Check.STATE : cells == 1 ? Check.NO : 0;
            }
            case DROP -> facts.cells[a] > 0 ? Check.NO : 0;
            case ORDER -> 0;
            case KNOWS -> beyond(b, -1, facts.happenings - 1) ? Check.OUTSIDE : 0;
            case HEIGHT -> beyond(b, 0, 63) ? Check.OUTSIDE : 0;
            case OWNER -> beyond(a, 0, 63) ? Check.OUTSIDE : 0;
            case NAME, TREE -> b < -1 ? Check.OUTSIDE : 0;
            case ABOUT -> beyond(b, 0, 4) ? Check.OUTSIDE : 0;
            case GROWTH -> beyond(b, 0, 4) ? Check.OUTSIDE : facts.cells[a] == 0 ? Check.STATE : 0;
            case UNLIKE -> beyond(a, 0, 2) ? Check.OUTSIDE : 0;
            case IMAGE -> beyond(a, 0, 1) ? Check.OUTSIDE : 0;
            case RESTORE -> beyond(a, 0, 1) ? Check.OUTSIDE : (facts.images & 1 << a) == 0 ? Check.STATE : 0;
            case COUNT -> beyond(a, 0, 3) ? Check.OUTSIDE : 0;
        };
    }

    private static List<Asked> everyCall(Facts facts) {
        List<Asked> calls = new ArrayList<>();
        for (Call call : Call.values()) {
            for (int a : GRID) {
                for (int b : call.numbers == 2 ? GRID : new int[] {0}) {
                    calls.add(new Asked(call, a, b, refusal(facts, call, a, b)));
                }
            }
        }
        return calls;
    }

    /** Calls that are not refused are made on an object of their own, and answer no refusal. */
    private static void lookAt(Run state, Facts facts) {
        List<Asked> refused = new ArrayList<>();
        for (Asked one : everyCall(facts)) {
            if (one.want != 0) {
                refused.add(one);
                continue;
            }
            int got = state.again().make(one.call, one.a, one.b);
            Check.due(one.call.text(one.a, one.b) + " is refused", 0, got <= Check.UNKNOWN && got > Check.NONE ? 1 : 0);
        }
        for (int from = 0; from < refused.size(); from += BATCH) {
            lookAtBatch(state, refused.subList(from, Math.min(from + BATCH, refused.size())));
        }
    }

    private static void lookAtBatch(Run state, List<Asked> calls) {
        Run x = state.again();
        for (Asked one : calls) {
            Check.due(x, one.call, one.a, one.b, one.want);
        }
        Asked first = calls.get(0);
        Asked last = calls.get(calls.size() - 1);
        Check.due("what stands after the refused " + first.call.text(first.a, first.b) + " to "
            + last.call.text(last.a, last.b), state.all(), x.all());
    }

    private static int[] cells(int... present) {
        int[] cells = new int[12];
        for (int s = 0; s < cells.length; s++) {
            cells[s] = s < present.length ? present[s] : -1;
        }
        return cells;
    }

    private static void everyRefusal() {
        Check.sentence("Terms", "What is refused changes nothing.");
        lookAt(new Run(), new Facts(cells(64), 0, 0));
        Run some = States.ladder();
        some.happen(0);
        some.image(1);
        some.peek(0);
        some.peek(2);
        some.happen(2);
        lookAt(some, new Facts(cells(1, 32, 16, 8, 4, 2, 1, 0, 0), 2, 2));
        Run gap = States.quarters();
        gap.happen(0);
        gap.image(0);
        gap.join(3, 0);
        gap.join(3, 2);
        gap.happen(3);
        lookAt(gap, new Facts(cells(-1, 16, -1, 48), 2, 1));
        Run full = States.crowded();
        full.image(0);
        full.happen(1);
        full.image(1);
        full.happen(0);
        lookAt(full, new Facts(cells(1, 32, 16, 8, 4, 2, 1, 0, 0, 0, 0, 0), 2, 3));
        lookAt(States.after60(), new Facts(cells(32, 32, 0), 60, 0));
    }

    private static final String ORDER = "Calls that are refused answer the first of these that fits: ";

    private static void unknownBeforeOutside() {
        Check.sentence("Terms", ORDER + "UNKNOWN -1 (there is no such STAMP), OUTSIDE -2");
        Run x = States.halves();
        for (Call call : new Call[] {Call.HEAR, Call.JOIN, Call.SHARE}) {
            Check.refused(x, call, 2, 2, Check.UNKNOWN);
        }
        Check.refused(x, Call.KNOWS, 2, 0, Check.UNKNOWN);
        Check.refused(x, Call.HEIGHT, 2, 64, Check.UNKNOWN);
        Check.refused(x, Call.NAME, 2, -2, Check.UNKNOWN);
        Check.refused(x, Call.TREE, 2, -2, Check.UNKNOWN);
        Check.refused(x, Call.ABOUT, 2, 5, Check.UNKNOWN);
        Check.refused(x, Call.GROWTH, 2, 5, Check.UNKNOWN);
    }

    private static void unknownBeforeFull() {
        Check.sentence("Terms", ORDER + "UNKNOWN -1 (there is no such STAMP)");
        Run crowded = States.crowded();
        Check.refused(crowded, Call.FORK, 12, Check.UNKNOWN);
        Check.refused(crowded, Call.PEEK, -1, Check.UNKNOWN);
        Check.refused(States.after60(), Call.HAPPEN, 3, Check.UNKNOWN);
    }

    private static void unknownBeforeState() {
        Check.sentence("Terms", ORDER + "UNKNOWN -1 (there is no such STAMP)");
        Run x = States.ladder();
        x.peek(0);
        Check.refused(x, Call.SHARE, 7, 8, Check.UNKNOWN);
        Check.refused(x, Call.SHARE, 8, 7, Check.UNKNOWN);
        Check.refused(x, Call.SHARE, 0, 8, Check.UNKNOWN);
    }

    private static void outsideBeforeState() {
        Check.sentence("Terms", "OUTSIDE -2 (another number is not as told), STATE -3");
        Run x = States.halves();
        x.peek(0);
        Check.refused(x, Call.SHARE, 2, 2, Check.OUTSIDE);
        Check.refused(x, Call.GROWTH, 2, 5, Check.OUTSIDE);
        Check.refused(x, Call.GROWTH, 2, -1, Check.OUTSIDE);
        Check.refused(x, Call.RESTORE, 2, Check.OUTSIDE);
    }

    private static void outsideBeforeNo() {
        Check.sentence("Terms", "OUTSIDE -2 (another number is not as told)");
        Check.refused(States.ladder(), Call.SHARE, 0, 0, Check.OUTSIDE);
    }

    private static void stateBeforeFull() {
        Check.sentence("Terms", "STATE -3, NO -5 (both as told with the call), FULL -4.");
        Check.refused(States.crowded(), Call.FORK, 11, Check.STATE);
        Check.refused(States.after60(), Call.HAPPEN, 2, Check.STATE);
    }

    private static void noBeforeFull() {
        Check.sentence("Terms", "NO -5 (both as told with the call), FULL -4.");
        Check.refused(States.crowded(), Call.FORK, 0, Check.NO);
        Check.refused(States.crowded(), Call.FORK, 6, Check.NO);
    }

    public static void main(String[] args) {
        everyRefusal();
        unknownBeforeOutside();
        unknownBeforeFull();
        unknownBeforeState();
        outsideBeforeState();
        outsideBeforeNo();
        stateBeforeFull();
        noBeforeFull();
        Check.end();
    }
}
