/** Promises 42 to 46: keep, again, count, of, row. */
final class KeptTest {
    private KeptTest() {
    }

    public static void main(String[] args) {
        keeping();
        since();
        others();
        counts();
        of();
        rows();
        Due.end("KeptTest");
    }

    private static void keeping() {
        OddsInCourt x = new OddsInCourt();
        Due.is("nothing kept", false, x.again(0));
        Due.is("keep(3)", false, x.keep(3));
        Due.is("keep(-1)", false, x.keep(-1));
        Due.is("again(3)", false, x.again(3));
        Due.is("again(-1)", false, x.again(-1));
        x.node(0, 4);
        x.node(1, 4);
        x.node(0, 4);
        x.set(0, 0, 1);
        x.set(1, 1, 3);
        x.cost(1, 5);
        x.see(2, 0);
        x.see(1, 1);
        x.force(2, 0);
        Due.is("keep(1)", true, x.keep(1));
        x.set(0, 0, 2);
        x.set(1, 1, 0);
        x.cost(1, 9);
        x.see(2, -1);
        x.see(1, -1);
        x.see(0, 1);
        x.force(2, -1);
        x.force(0, 1);
        Due.is("keep(0)", true, x.keep(0));
        for (int times = 0; times < 2; times++) {
            Due.is("again(1)", true, x.again(1));
            Due.is("table", 1, x.of(0, 5));
            Due.is("table", 3, x.of(1, 6));
            Due.is("cost", 5, x.of(1, 4));
            Due.is("forced", 4, x.count(10));
            Due.is("seen", 2, x.count(1));
            Due.is("in order", 0, x.of(2, 3));
            Due.is("as seen", 0, x.of(2, 2));
            Due.is("in order", 1, x.of(1, 3));
            Due.is("not seen", -1, x.of(0, 2));
            Due.is("weights too", 0, x.chance(0));
            Due.row("weights too", x, 1, 1);
            x.set(0, 0, 4);
            x.see(1, -1);
        }
        Due.is("again(0)", true, x.again(0));
        Due.is("the other state", 2, x.of(0, 5));
        Due.is("forced so", 0, x.chance(0));
        Due.row("forced so", x, 1, 1);
        Due.is("one seen", 1, x.count(1));
        Due.is("keep(1) anew", true, x.keep(1));
        x.set(0, 0, 0);
        x.again(1);
        Due.is("kept anew", 2, x.of(0, 5));
        Due.is("again(2)", false, x.again(2));
    }

    private static void since() {
        OddsInCourt x = new OddsInCourt();
        Due.is("keep an empty one", true, x.keep(2));
        x.node(0, 4);
        x.set(0, 0, 3);
        x.cost(0, 7);
        x.see(0, 1);
        x.force(0, 1);
        Due.is("again", true, x.again(2));
        Due.is("it is still there", 1, x.count(0));
        Due.is("keeps its table", 3, x.of(0, 5));
        Due.is("and cost", 7, x.of(0, 4));
        Due.is("not seen", 0, x.count(1));
        Due.is("not seen", -1, x.of(0, 2));
        Due.is("not forced", 0, x.count(10));
        x.chance(0);
        Due.row("by its table", x, 3, 4);
        x.see(0, 1);
        Due.is("can be seen anew", 0, x.of(0, 3));
    }

    /** Spans, sayings, heads, lands, days, the row and THE TEXT are not kept. */
    private static void others() {
        OddsInCourt x = new OddsInCourt();
        x.node(0, 4);
        x.keep(0);
        x.span(0, 0, 1, 2);
        x.head(0, 1);
        x.land(5, 0, 1, 1, 1);
        x.day(true, true, true);
        Due.say(x, "a=0:1");
        x.chance(0);
        x.sign(0);
        x.again(0);
        int[] due = {1, 0, 1, 1, 1, 1, 1, 2, 4, 4, 0};
        for (int what = 0; what < due.length; what++) {
            Due.is("count(" + what + ")", due[what], x.count(what));
        }
    }

    private static void counts() {
        OddsInCourt x = new OddsInCourt();
        x.node(0, 3);
        x.node(0, 7);
        x.force(0, 0);
        x.force(1, 1);
        Due.is("depths", 21, x.count(9));
        Due.is("forced bits", 3, x.count(10));
        Due.is("count(11)", -1, x.count(11));
        Due.is("count(-1)", -1, x.count(-1));
        x.likely();
        Due.is("row", 2, x.count(7));
        x.joined(3);
        Due.is("row", 4, x.count(7));
        x.day(true, false, false);
        x.shifts(0);
        Due.is("row", 3, x.count(7));
    }

    private static void of() {
        OddsInCourt x = new OddsInCourt();
        x.node(0, 2);
        x.node(0, 3);
        x.node(3, 5);
        x.set(2, 3, 4);
        x.see(1, 0);
        x.see(2, 1);
        x.cost(2, 8);
        int[] due = {3, 5, 1, 1, 8, 0, 0, 0, 4};
        for (int what = 0; what < due.length; what++) {
            Due.is("of(2, " + what + ")", due[what], x.of(2, what));
        }
        Due.is("seen not to be", 0, x.of(1, 2));
        Due.is("its place", 0, x.of(1, 3));
        Due.is("not seen", -1, x.of(0, 2));
        Due.is("no place", -1, x.of(0, 3));
        Due.is("cost at first", 1, x.of(0, 4));
        Due.noOf("behind the table", x, 2, 9);
        Due.noOf("behind the table", x, 0, 6);
        Due.noOf("what below 0", x, 0, -1);
        Due.noOf("what far off", x, 0, Integer.MAX_VALUE);
        Due.noOf("what far below", x, 0, Integer.MIN_VALUE);
        Due.noOf("no such node", x, 3, 0);
        Due.noOf("node below 0", x, -1, 0);
    }

    private static void rows() {
        OddsInCourt x = new OddsInCourt();
        Due.noRow("an empty row", x, 0);
        x.list(3, 1, 1, 2);
        Due.row("told", x, 1, 2);
        x.node(0, 2);
        x.see(0, 1);
        x.count(7);
        Due.is("no weight", -2, x.chance(0));
        Due.row("stays till it is told anew", x, 1, 2);
        Due.noRow("far off", x, Integer.MAX_VALUE);
        Due.noRow("far below", x, Integer.MIN_VALUE);
    }
}
