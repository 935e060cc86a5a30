import java.util.Locale;

/** The calls of the face, so that a test can keep them and go through all of them. */
enum Call {
    FORK(1, (x, a, b) -> x.fork(a)),
    PEEK(1, (x, a, b) -> x.peek(a)),
    HAPPEN(1, (x, a, b) -> x.happen(a)),
    HEAR(2, (x, a, b) -> x.hear(a, b)),
    JOIN(2, (x, a, b) -> x.join(a, b)),
    SHARE(2, (x, a, b) -> x.share(a, b)),
    DROP(1, (x, a, b) -> x.drop(a)),
    ORDER(2, (x, a, b) -> x.order(a, b)),
    KNOWS(2, (x, a, b) -> x.knows(a, b)),
    HEIGHT(2, (x, a, b) -> x.height(a, b)),
    OWNER(1, (x, a, b) -> x.owner(a)),
    NAME(2, (x, a, b) -> x.name(a, b)),
    TREE(2, (x, a, b) -> x.tree(a, b)),
    ABOUT(2, (x, a, b) -> x.about(a, b)),
    GROWTH(2, (x, a, b) -> x.growth(a, b)),
    UNLIKE(1, (x, a, b) -> x.unlike(a)),
    IMAGE(1, (x, a, b) -> x.image(a)),
    RESTORE(1, (x, a, b) -> x.restore(a)),
    COUNT(1, (x, a, b) -> x.count(a));

    private interface Ask {
        int on(SpanStamps x, int a, int b);
    }

    final int numbers;
    private final Ask ask;

    Call(int numbers, Ask ask) {
        this.numbers = numbers;
        this.ask = ask;
    }

    /** A call that takes one number does not look at b. */
    int on(SpanStamps x, int a, int b) {
        return ask.on(x, a, b);
    }

    String text(int a, int b) {
        return name().toLowerCase(Locale.ROOT) + "(" + a + (numbers == 2 ? ", " + b : "") + ")";
    }
}
