/** Boundary cases of what is refused: where several refusals fit, the first one is the answer. */
final class RefusedEdges {
    private static final int UNKNOWN = RazorTalk.UNKNOWN, OUTSIDE = RazorTalk.OUTSIDE, NOT = RazorTalk.NOT,
            FULL = RazorTalk.FULL;
    private static final String FIRST = "FULL: the first of these that fits";

    private RefusedEdges() {
    }

    static void run() {
        letters();
        asked();
        done();
        foretold();
        seen();
    }

    /** A town in which nothing is known and nothing kept. */
    private static RazorTalk quiet() {
        return Check.told("town 3;plain 21;rumour 21;rumour 20");
    }

    private static RazorTalk full() {
        RazorTalk x = Edge.busy();
        Check.write(x, " ".repeat(160 - x.count(8)));
        for (int n = x.count(6); n < 6; n++) x.seen(n, 9, 0);
        return x;
    }

    private static void letters() {
        Edge.of(2, FIRST);
        Edge.refused(RefusedEdges::full, "write(255)", FULL, y -> y.write(255));
        Edge.refused(RefusedEdges::full, "write(256)", OUTSIDE, y -> y.write(256));
        Edge.refused(RefusedEdges::full, "write(-1)", OUTSIDE, y -> y.write(-1));
    }

    private static void asked() {
        Edge.of(6, FIRST);
        Edge.refused("person(2, 4)", UNKNOWN, y -> y.person(2, 4));
        Edge.of(9, FIRST);
        Edge.refused("knows(3, 0, 3)", UNKNOWN, y -> y.knows(3, 0, 3));
        Edge.refused("knows(0, 2, 3)", UNKNOWN, y -> y.knows(0, 2, 3));
        Edge.of(10, FIRST);
        Edge.refused("as(2, 5)", UNKNOWN, y -> y.as(2, 5));
        Edge.refused("as(0, 5)", OUTSIDE, y -> y.as(0, 5));
        Edge.refused("as(0, 1)", NOT, y -> y.as(0, 1));
    }

    private static void done() {
        Edge.of(14, FIRST);
        Edge.refused(RefusedEdges::quiet, "burn(0, 0)", NOT, y -> y.burn(0, 0));
        Edge.refused(RefusedEdges::quiet, "burn(3, 0)", UNKNOWN, y -> y.burn(3, 0));
        Edge.refused(RefusedEdges::quiet, "burn(0, 1)", UNKNOWN, y -> y.burn(0, 1));
        Edge.of(17, FIRST);
        Edge.refused(RefusedEdges::quiet, "back(1)", NOT, y -> y.back(1));
        Edge.refused(RefusedEdges::quiet, "back(2)", UNKNOWN, y -> y.back(2));
        Edge.refused(RefusedEdges::quiet, "back(-1)", UNKNOWN, y -> y.back(-1));
    }

    private static void foretold() {
        Edge.of(18, FIRST);
        Edge.refused("smooth(3, 0, 9)", UNKNOWN, y -> y.smooth(3, 0, 9));
        Edge.refused("smooth(0, 2, 0)", UNKNOWN, y -> y.smooth(0, 2, 0));
        Edge.of(21, FIRST);
        Edge.refused("round(2, 6, 0)", UNKNOWN, y -> y.round(2, 6, 0));
        Edge.refused("round(0, -1, 3)", UNKNOWN, y -> y.round(0, -1, 3));
        Edge.of(25, FIRST);
        Edge.refused("stays(3, 0, 11, 0)", UNKNOWN, y -> y.stays(3, 0, 11, 0));
        Edge.refused("stays(0, 2, 5, 2)", UNKNOWN, y -> y.stays(0, 2, 5, 2));
    }

    private static void seen() {
        Edge.of(22, FIRST);
        Edge.refused(RefusedEdges::full, "seen(0, 0, 0)", FULL, y -> y.seen(0, 0, 0));
        Edge.refused(RefusedEdges::full, "seen(0, 10, 0)", OUTSIDE, y -> y.seen(0, 10, 0));
        Edge.refused(RefusedEdges::full, "seen(0, 0, -2)", OUTSIDE, y -> y.seen(0, 0, -2));
        Edge.refused(RefusedEdges::full, "seen(6, 10, 2)", UNKNOWN, y -> y.seen(6, 10, 2));
    }
}
