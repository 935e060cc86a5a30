/** Holds answers against those that are due, one sentence of the document after the other. */
final class Check {
    static final int UNKNOWN = -1;
    static final int OUTSIDE = -2;
    static final int STATE = -3;
    static final int FULL = -4;
    static final int NO = -5;
    static final int NONE = -6;
    static final int MIN = Integer.MIN_VALUE;
    static final int MAX = Integer.MAX_VALUE;

    /** Numbers that no STAMP ever has. */
    static final int[] NEVER_A_STAMP = {
        MIN, MIN + 1, -65, -64, -33, -32, -13, -12, -6, -2, -1, 12, 13, 16, 31, 32, 63, 64, 1 << 16, MAX - 1, MAX};

    private static final int MOST_PRINTED = 40;

    private static String place = "";
    private static int sentences = 0;
    private static int asked = 0;
    private static int askedBefore = 0;
    private static int wrong = 0;

    private Check() {
    }

    /** What follows tests these words, which stand at that place of the document. */
    static void sentence(String where, String words) {
        lookAtLast();
        place = where + ", \"" + words + "\"";
        sentences++;
    }

    /** A sentence that nothing was asked about has no test. */
    private static void lookAtLast() {
        if (sentences > 0 && asked == askedBefore) {
            fault("nothing was asked");
        }
        askedBefore = asked;
    }

    private static void fault(String what) {
        wrong++;
        if (wrong <= MOST_PRINTED) {
            System.out.println(place + ": " + what);
        }
    }

    static void due(String call, int want, int got) {
        asked++;
        if (got != want) {
            fault(call + " answered " + got + ", due is " + want);
        }
    }

    static void due(String what, String want, String got) {
        asked++;
        if (!got.equals(want)) {
            fault(what + " is\n" + got + "\ndue is\n" + want);
        }
    }

    static void due(Run x, Call call, int a, int b, int want) {
        due(call.text(a, b), want, x.make(call, a, b));
    }

    static void due(Run x, Call call, int a, int want) {
        due(x, call, a, 0, want);
    }

    /** The call answers so, and everything is as it was. */
    static void refused(Run x, Call call, int a, int b, int want) {
        String before = x.all();
        due(x, call, a, b, want);
        due("what stands after the refused " + call.text(a, b), before, x.all());
    }

    static void refused(Run x, Call call, int a, int want) {
        refused(x, call, a, 0, want);
    }

    /** A question is answered so, and everything is as it was. */
    static void told(Run x, Call call, int a, int b, int want) {
        refused(x, call, a, b, want);
    }

    static void told(Run x, Call call, int a, int want) {
        refused(x, call, a, 0, want);
    }

    static void end() {
        lookAtLast();
        System.out.println(sentences + " sentences, " + asked + " answers looked at, " + wrong + " not as due");
        if (wrong != 0) {
            System.exit(1);
        }
    }
}
