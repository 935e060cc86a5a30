import java.util.Map;
import java.util.TreeMap;

/**
 * A state told as a text: "a32:0 b16:2 a16:1" is a LINE on which one STAMP, a, has CELLS 0 to 31 and 48 to 63,
 * another one, b, has 32 to 47, and both have HEIGHTS 0, 2 and 1 there. It is come to by forks, happenings and
 * joins alone; then all hear one another. So many HAPPENINGS are used up as there are SPANS times their HEIGHTS.
 */
final class Line {
    final Run run = new Run();
    private final char[] owners = new char[Run.CELLS];
    private final int[] heights = new int[Run.CELLS];
    private final Map<Character, Integer> numbers = new TreeMap<>();

    Line(String text) {
        int cell = 0;
        for (String part : text.split(" ")) {
            int colon = part.indexOf(':');
            int end = cell + Integer.parseInt(part.substring(1, colon));
            while (cell < end) {
                owners[cell] = part.charAt(0);
                heights[cell] = Integer.parseInt(part.substring(colon + 1));
                cell++;
            }
        }
        if (cell != Run.CELLS) {
            throw new IllegalArgumentException("not a LINE: " + text);
        }
        dig(0, 0, Run.CELLS);
        hearAll();
    }

    int number(char owner) {
        return numbers.get(owner);
    }

    private void dig(int s, int first, int size) {
        if (isAlike(first, size)) {
            for (int i = 0; i < heights[first]; i++) {
                notRefused(run.happen(s));
            }
            collect(s, owners[first]);
            return;
        }
        int upper = notRefused(run.fork(s));
        dig(s, first, size / 2);
        dig(upper, first + size / 2, size / 2);
    }

    private boolean isAlike(int first, int size) {
        for (int cell = first + 1; cell < first + size; cell++) {
            if (owners[cell] != owners[first] || heights[cell] != heights[first]) {
                return false;
            }
        }
        return true;
    }

    private void collect(int s, char owner) {
        Integer number = numbers.putIfAbsent(owner, s);
        if (number != null) {
            notRefused(run.join(number, s));
        }
    }

    /** A LINE that can't be come to is a fault of the test, or of the class. */
    private static int notRefused(int answer) {
        if (answer < 0) {
            throw new IllegalStateException("a LINE is not come to: a call answered " + answer);
        }
        return answer;
    }

    private void hearAll() {
        int first = numbers.values().iterator().next();
        for (int s : numbers.values()) {
            if (s != first) {
                run.hear(first, s);
            }
        }
        for (int s : numbers.values()) {
            if (s != first) {
                run.hear(s, first);
            }
        }
    }
}
