/** Promises 15 to 18: apart, even, joined, bounds. */
final class TogetherTest {
    private TogetherTest() {
    }

    public static void main(String[] args) {
        rows();
        meeting();
        farBelow();
        even();
        joined();
        bounds();
        wrong();
        Due.end("TogetherTest");
    }

    /** a to b to c, and d of its own; all leaning with 1 or 3 in 4. */
    private static void rows() {
        OddsInCourt x = new OddsInCourt();
        x.node(0, 4);
        x.node(1, 4);
        x.node(2, 4);
        x.node(0, 4);
        x.set(0, 0, 1);
        x.set(1, 0, 1);
        x.set(1, 1, 3);
        x.set(2, 0, 1);
        x.set(2, 1, 3);
        x.set(3, 0, 1);
        Due.is("a row", 0, x.apart(0, 2, 0));
        Due.is("the other way round", 0, x.apart(2, 0, 0));
        Due.is("stopped in the midst", 1, x.apart(0, 2, 2));
        Due.is("neighbours", 0, x.apart(0, 1, 4));
        Due.is("one of its own", 1, x.apart(0, 3, 7 & ~1));
        x.force(1, 0);
        Due.is("a forced one leans on none", 1, x.apart(0, 2, 0));
        Due.is("but others on it", 0, x.apart(1, 2, 0));
        Due.is("nor is it a's neighbour", 1, x.apart(0, 1, 0));
    }

    private static void meeting() {
        OddsInCourt x = new OddsInCourt();
        x.node(0, 2);
        x.node(0, 2);
        x.node(3, 2);
        x.node(0, 2);
        x.node(10, 2);
        Due.is("a meeting is closed", 1, x.apart(0, 1, 0));
        Due.is("given, it is open", 0, x.apart(0, 1, 4));
        Due.is("two meetings", 1, x.apart(0, 3, 4));
        Due.is("both given, b not", 0, x.apart(0, 3, 4 | 16));
        Due.is("both given, b too", 1, x.apart(0, 3, 2 | 4 | 16));
        Due.is("from meeting to meeting", 0, x.apart(2, 4, 0));
        Due.is("stopped at b", 1, x.apart(2, 4, 2));
    }

    /** One far below a meeting opens it, unless one between is forced. */
    private static void farBelow() {
        OddsInCourt x = new OddsInCourt();
        x.node(0, 2);
        x.node(0, 2);
        x.node(3, 2);
        x.node(4, 2);
        x.node(8, 2);
        Due.is("far below", 0, x.apart(0, 1, 16));
        x.force(3, 1);
        Due.is("forced between", 1, x.apart(0, 1, 16));
        Due.is("the forced one itself", 1, x.apart(0, 1, 8));
    }

    private static void even() {
        OddsInCourt x = new OddsInCourt();
        x.node(0, 2);
        x.node(0, 2);
        x.node(3, 2);
        x.set(0, 0, 1);
        x.set(1, 0, 1);
        x.set(2, 1, 2);
        x.set(2, 2, 2);
        Due.is("c is one of both alone", 1, x.even(0, 1, 0));
        Due.is("given c they hang together", 0, x.even(0, 1, 4));
        Due.is("by numbers even, by the net not", 1, x.even(0, 2, 0));
        Due.is("by the net not", 0, x.apart(0, 2, 0));
        x.force(2, 1);
        Due.is("forced", 1, x.even(0, 1, 4));
        x.force(2, -1);
        x.set(0, 0, 2);
        Due.is("a's case has weight, there they hang together", 0, x.even(1, 2, 1));
        x.set(2, 1, 1);
        x.set(2, 3, 1);
        Due.is("there no more; the other case has no weight", 1, x.even(1, 2, 1));
        x.see(0, 0);
        Due.is("what is seen does not matter", 1, x.even(1, 2, 1));
    }

    private static void joined() {
        OddsInCourt x = new OddsInCourt();
        x.node(0, 4);
        x.node(1, 4);
        x.set(0, 0, 1);
        x.set(1, 0, 1);
        x.set(1, 1, 3);
        Due.is("joined(3)", 0, x.joined(3));
        Due.row("1/4 times 6/16, then 3/16", x, 3, 32, 3, 16);
        Due.is("one alone", 0, x.joined(2));
        Due.row("one alone", x, 3, 8, 3, 8);
        x.see(1, 1);
        Due.is("now", 0, x.joined(3));
        Due.row("1/2 and 1", x, 1, 2, 1, 2);
        x.see(1, 0);
        Due.is("seen not to be", 0, x.joined(3));
        Due.row("seen not to be", x, 0, 1, 0, 1);
        Due.is("none", -1, x.joined(0));
        Due.is("none such", -1, x.joined(4));
        Due.is("below 0", -1, x.joined(-1));
        tooGreat();
    }

    /** Chances with lower numbers 97, 97^2, 97^3, 97^4: multiplied 97^10, above 10 to the 18. */
    private static void tooGreat() {
        OddsInCourt x = new OddsInCourt();
        for (int i = 0; i < 4; i++) {
            x.node(i == 0 ? 0 : 1 << (i - 1), 97);
            x.set(i, 0, 1);
            x.set(i, 1, 2);
        }
        Due.is("97^9 is not above", 0, x.joined(14));
        Due.is("its lower number", 97L * 97 * 97 * 97 * 97 * 97 * 97 * 97 * 97, x.row(1));
        Due.is("97^10 is", -9, x.joined(15));
        Due.is("the row stays", 97L * 97 * 97 * 97 * 97 * 97 * 97 * 97 * 97, x.row(1));
        Due.is("bounds are not products", 0, x.bounds(15));
    }

    private static void bounds() {
        OddsInCourt x = new OddsInCourt();
        x.node(0, 10);
        x.node(0, 10);
        x.node(0, 10);
        x.set(0, 0, 9);
        x.set(1, 0, 8);
        x.set(2, 0, 7);
        Due.is("two", 0, x.bounds(3));
        Due.row("two", x, 7, 10, 4, 5);
        Due.is("three", 0, x.bounds(7));
        Due.row("three", x, 2, 5, 7, 10);
        Due.is("one", 0, x.bounds(4));
        Due.row("one", x, 7, 10, 7, 10);
        x.set(1, 0, 1);
        Due.is("not below 0", 0, x.bounds(7));
        Due.row("not below 0", x, 0, 1, 1, 10);
        x.set(1, 0, 3);
        x.set(2, 0, 8);
        Due.is("just 0", 0, x.bounds(7));
        Due.row("just 0", x, 0, 1, 3, 10);
        Due.is("none", -1, x.bounds(0));
        Due.is("none such", -1, x.bounds(8));
        Due.is("below 0", -1, x.bounds(-8));
        x.set(0, 0, 0);
        x.see(0, 1);
        Due.is("no weight", -2, x.bounds(1));
        Due.is("no weight", -2, x.joined(1));
        Due.row("the row stays", x, 0, 1, 3, 10);
    }

    private static void wrong() {
        OddsInCourt x = new OddsInCourt();
        x.node(0, 2);
        x.node(0, 2);
        int[][] calls = {{0, 0, 0}, {0, 2, 0}, {2, 0, 0}, {-1, 0, 0}, {0, -1, 0}, {0, 1, 1}, {0, 1, 2},
            {0, 1, 4}, {0, 1, -1}};
        for (int[] c : calls) {
            String call = "(" + c[0] + ", " + c[1] + ", " + c[2] + ")";
            Due.is("apart" + call, -1, x.apart(c[0], c[1], c[2]));
            Due.is("even" + call, -1, x.even(c[0], c[1], c[2]));
        }
    }
}
