/** Promises 18 to 20: each sentence that names an edge or a refusal, with a test of its own. */
public final class ImagesEdgeTest {
    /** Numbers that no IMAGE has; 32 and 64 would be bit 0 for a shift that wraps around. */
    private static final int[] NEVER_AN_IMAGE = {
        Check.MIN, Check.MIN + 1, -64, -32, -31, -2, -1, 2, 3, 12, 31, 32, 33, 63, 64, Check.MAX - 1, Check.MAX};

    private static void imageKeeps() {
        Check.sentence("Promise 18", "STAMPS, and how many HAPPENINGS there were, are kept in an IMAGE (0, 1)");
        for (int k = 0; k < 2; k++) {
            Run x = States.quarters();
            x.happen(0);
            x.hear(3, 0);
            x.join(2, 1);
            x.peek(3);
            String before = x.heights(3) + x.known(3) + x.owners();
            Check.due(x, Call.IMAGE, k, 1);
            Check.due("what stands now", before, x.heights(3) + x.known(3) + x.owners());
            String kept = x.all();
            x.happen(3);
            x.hear(1, 3);
            x.fork(2);
            x.share(0, 2);
            x.drop(1);
            x.join(3, 0);
            Check.due(x, Call.RESTORE, k, 1);
            Check.due("what was kept in " + k, kept, x.all());
            Check.due(x, Call.COUNT, 2, 1);
        }
    }

    private static void imageInPlace() {
        Check.sentence("Promise 18", "in place of what was kept there: 1.");
        Run x = States.crowded();
        x.happen(0);
        Check.due(x, Call.IMAGE, 0, 1);
        for (int s = 1; s < 12; s++) {
            x.join(0, s);
        }
        Check.due("image(0): fewer STAMPS than were kept", 1, x.image(0));
        Check.due(x, Call.COUNT, 3, 1);
        String kept = x.all();
        x.fork(0);
        x.happen(0);
        x.restore(0);
        Check.due("what was kept last", kept, x.all());
        Check.due(x, Call.COUNT, 0, 1);
        Check.due(x, Call.COUNT, 2, 1);
        Run same = new Run();
        Check.due("image(1)", 1, same.image(1));
        Check.due("image(1) of the same again", 1, same.image(1));
        Check.due(same, Call.COUNT, 3, 2);
    }

    private static void imagesApart() {
        Check.sentence("Promise 18", "are kept in an IMAGE (0, 1)");
        Run x = new Run();
        x.image(0);
        x.happen(0);
        x.image(1);
        x.happen(0);
        Check.due(x, Call.RESTORE, 0, 1);
        Check.due(x, Call.COUNT, 2, 0);
        Check.due("heights", "64:0", x.heights(0));
        Check.due(x, Call.RESTORE, 1, 1);
        Check.due(x, Call.COUNT, 2, 1);
        Check.due("heights", "64:1", x.heights(0));
        x.image(0);
        x.happen(0);
        x.restore(0);
        Check.due("heights, kept in 0 what had been kept in 1", "64:1", x.heights(0));
    }

    private static void imageOutside() {
        Check.sentence("Promise 18", "OUTSIDE.");
        Run none = new Run();
        Run both = States.halves();
        both.image(0);
        both.happen(0);
        both.image(1);
        both.happen(0);
        for (int k : NEVER_AN_IMAGE) {
            Check.refused(none, Call.IMAGE, k, Check.OUTSIDE);
            Check.refused(both, Call.IMAGE, k, Check.OUTSIDE);
        }
    }

    private static void asTheyWere() {
        Check.sentence("Promise 19", "They are as they were when they were kept;");
        Run more = new Run();
        more.image(0);
        for (int i = 0; i < 11; i++) {
            more.peek(0);
        }
        more.happen(0);
        Check.due(more, Call.RESTORE, 0, 1);
        Check.due("those who came are there no more", 1, more.count(1));
        Check.refused(more, Call.HEIGHT, 11, 0, Check.UNKNOWN);
        Check.refused(more, Call.KNOWS, 0, 0, Check.OUTSIDE);
        Check.due("fork(0)", 1, more.fork(0));
        Check.due("heights of 1", "64:0", more.heights(1));
        Run fewer = States.crowded();
        fewer.image(1);
        for (int s = 1; s < 12; s++) {
            fewer.join(0, s);
        }
        Check.due(fewer, Call.RESTORE, 1, 1);
        Check.due("those who went are there again", 4095, fewer.count(1));
        Check.refused(fewer, Call.PEEK, 0, Check.FULL);
        Check.due("owners", "1:0 1:6 2:5 4:4 8:3 16:2 32:1", fewer.owners());
    }

    private static void happeningsAsTheyWere() {
        Check.sentence("Promise 19", "They are as they were when they were kept;");
        Run x = new Run();
        x.happen(0);
        x.image(0);
        for (int e = 1; e < 60; e++) {
            x.happen(0);
        }
        x.image(1);
        Check.refused(x, Call.HAPPEN, 0, Check.FULL);
        x.restore(0);
        Check.due("known", "0", x.known(0));
        Check.due("happen(0): the numbers come again", 1, x.happen(0));
        x.restore(1);
        Check.refused(x, Call.HAPPEN, 0, Check.FULL);
        Check.due(x, Call.KNOWS, 0, -1, 60);
        Check.due("heights", "64:60", x.heights(0));
    }

    private static void imageStays() {
        Check.sentence("Promise 19", "the IMAGE stays: 1.");
        Run x = States.quarters();
        x.happen(2);
        x.image(0);
        x.happen(3);
        x.image(1);
        String later = x.all();
        for (int i = 0; i < 3; i++) {
            Check.due(x, Call.RESTORE, 0, 1);
            Check.due(x, Call.COUNT, 3, 3);
            Check.due("heights of 2", "16:0 16:1 32:0", x.heights(2));
            Check.due("heights of 3", "64:0", x.heights(3));
            x.happen(2);
            x.hear(3, 2);
            x.join(0, 1);
            Check.due(x, Call.RESTORE, 1, 1);
            Check.due("what was kept in 1", later, x.all());
        }
        Check.due("restore(1) when it stands", 1, x.restore(1));
        Check.due("what was kept in 1", later, x.all());
    }

    private static void restoreOutside() {
        Check.sentence("Promise 19", "OUTSIDE;");
        Run none = new Run();
        Run both = States.halves();
        both.image(0);
        both.happen(0);
        both.image(1);
        both.happen(0);
        for (int k : NEVER_AN_IMAGE) {
            Check.refused(none, Call.RESTORE, k, Check.OUTSIDE);
            Check.refused(both, Call.RESTORE, k, Check.OUTSIDE);
        }
    }

    private static void restoreNothing() {
        Check.sentence("Promise 19", "STATE: nothing was kept in it.");
        for (int k = 0; k < 2; k++) {
            Run x = States.halves();
            x.happen(0);
            Check.refused(x, Call.RESTORE, k, Check.STATE);
            x.image(1 - k);
            x.happen(0);
            Check.refused(x, Call.RESTORE, k, Check.STATE);
            x.restore(1 - k);
            Check.refused(x, Call.RESTORE, k, Check.STATE);
            x.image(k);
            Check.due(x, Call.RESTORE, k, 1);
        }
    }

    private static void countStamps() {
        Check.sentence("Promise 20", "How many STAMPS there are (0), the set of their numbers, bits (1)");
        Run x = new Run();
        Check.told(x, Call.COUNT, 0, 1);
        Check.told(x, Call.COUNT, 1, 1);
        for (int s = 1; s < 12; s++) {
            x.peek(0);
            Check.told(x, Call.COUNT, 0, s + 1);
            Check.told(x, Call.COUNT, 1, (2 << s) - 1);
        }
        x.join(11, 0);
        Check.told(x, Call.COUNT, 0, 11);
        Check.told(x, Call.COUNT, 1, 4094);
        for (int s = 1; s < 11; s++) {
            x.drop(s);
        }
        Check.told(x, Call.COUNT, 0, 1);
        Check.told(x, Call.COUNT, 1, 2048);
    }

    private static void countHappenings() {
        Check.sentence("Promise 20", "how many HAPPENINGS there were (2)");
        Run x = States.halves();
        x.peek(0);
        Check.told(x, Call.COUNT, 2, 0);
        x.happen(2);
        Check.told(x, Call.COUNT, 2, 0);
        for (int e = 0; e < 60; e++) {
            x.happen(e % 2);
            Check.due(x, Call.COUNT, 2, e + 1);
        }
        x.happen(0);
        Check.told(x, Call.COUNT, 2, 60);
        x.join(0, 1);
        Check.told(x, Call.COUNT, 2, 60);
    }

    private static void countImages() {
        Check.sentence("Promise 20", "which IMAGES are kept, a set (3).");
        Run x = new Run();
        Check.told(x, Call.COUNT, 3, 0);
        x.image(1);
        Check.told(x, Call.COUNT, 3, 2);
        x.image(0);
        Check.told(x, Call.COUNT, 3, 3);
        x.restore(1);
        Check.told(x, Call.COUNT, 3, 3);
        Run y = new Run();
        y.image(0);
        Check.told(y, Call.COUNT, 3, 1);
        y.image(0);
        y.image(2);
        Check.told(y, Call.COUNT, 3, 1);
        y.restore(0);
        Check.told(y, Call.COUNT, 3, 1);
    }

    private static void countOutside() {
        Check.sentence("Promise 20", "OUTSIDE.");
        Run x = States.crowded();
        x.image(0);
        for (int what : new int[] {Check.MIN, Check.MIN + 1, -64, -32, -6, -2, -1, 4, 5, 12, 32, 35, 64, 67,
            Check.MAX - 1, Check.MAX}) {
            Check.refused(x, Call.COUNT, what, Check.OUTSIDE);
        }
    }

    public static void main(String[] args) {
        imageKeeps();
        imageInPlace();
        imagesApart();
        imageOutside();
        asTheyWere();
        happeningsAsTheyWere();
        imageStays();
        restoreOutside();
        restoreNothing();
        countStamps();
        countHappenings();
        countImages();
        countOutside();
        Check.end();
    }
}
