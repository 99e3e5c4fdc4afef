/** Promises 26 to 28: span, reach, leans. */
final class SpanTest {
    private SpanTest() {
    }

    public static void main(String[] args) {
        telling();
        places();
        reach();
        noWeight();
        leans();
        forced();
        Due.end("SpanTest");
    }

    /** a 1 in 2; b leans on a: 8 in 10 with it, 2 in 10 without. */
    private static OddsInCourt net() {
        OddsInCourt x = new OddsInCourt();
        x.node(0, 10);
        x.node(1, 10);
        x.set(0, 0, 5);
        x.set(1, 1, 8);
        x.set(1, 0, 2);
        return x;
    }

    private static void telling() {
        OddsInCourt x = net();
        Due.is("none there to be no more", -1, x.span(0, 0, 1, 0));
        Due.is("one", 1, x.span(0, 0, 0, 10));
        Due.is("two", 2, x.span(1, 1, 3, 3));
        Due.is("told again", 2, x.span(0, 0, 2, 4));
        Due.is("no such node", -1, x.span(2, 0, 1, 2));
        Due.is("node below 0", -1, x.span(-1, 0, 1, 2));
        Due.is("no such case", -1, x.span(0, 1, 1, 2));
        Due.is("case below 0", -1, x.span(0, -1, 1, 2));
        Due.is("low below 0", -1, x.span(0, 0, -1, 2));
        Due.is("high above the depth", -1, x.span(0, 0, 1, 11));
        Due.is("still two", 2, x.count(3));
        Due.is("no more", 1, x.span(0, 0, 4, 2));
        Due.is("none there now", -1, x.span(0, 0, 4, 2));
        Due.is("one left", 1, x.count(3));
    }

    /** Six at most; those behind one that is no more come ahead. */
    private static void places() {
        OddsInCourt x = new OddsInCourt();
        for (int i = 0; i < 3; i++) {
            x.node(0, 4);
            x.set(i, 0, 2);
        }
        x.node(7, 4);
        for (int at = 0; at < 8; at++) {
            x.set(3, at, 2);
        }
        Due.is("0", 1, x.span(3, 0, 2, 2));
        Due.is("1", 2, x.span(3, 1, 1, 3));
        Due.is("2", 3, x.span(0, 0, 2, 2));
        Due.is("3", 4, x.span(3, 2, 2, 4));
        Due.is("4", 5, x.span(1, 0, 2, 2));
        Due.is("5", 6, x.span(2, 0, 0, 4));
        Due.is("a seventh", -1, x.span(3, 3, 1, 3));
        Due.is("the fourth in place", 6, x.span(3, 2, 0, 4));
        Due.is("leans", 2 | 8, x.leans(3));
        Due.is("the third is no more", 5, x.span(0, 0, 2, 1));
        Due.is("leans", 2 | 4, x.leans(3));
        Due.is("room for one", 6, x.span(3, 3, 1, 3));
        Due.is("it is the last", 2 | 4 | 32, x.leans(3));
    }

    private static void reach() {
        OddsInCourt x = net();
        Due.is("no span", 0, x.reach(1, 0));
        Due.row("no span", x, 1, 2);
        x.span(0, 0, 1, 9);
        Due.is("least", 0, x.reach(1, 0));
        Due.row("8 + 18 of 100", x, 13, 50);
        Due.is("greatest", 0, x.reach(1, 1));
        Due.row("72 + 2 of 100", x, 37, 50);
        x.see(1, 1);
        Due.is("given now, least", 0, x.reach(0, 0));
        Due.row("8 by 26", x, 4, 13);
        Due.is("given now, greatest", 0, x.reach(0, 1));
        Due.row("72 by 74", x, 36, 37);
        x.span(1, 1, 6, 10);
        x.span(1, 0, 1, 6);
        Due.is("three spans, least", 0, x.reach(0, 0));
        Due.row("6 by 60", x, 1, 10);
        Due.is("three spans, greatest", 0, x.reach(0, 1));
        Due.row("90 by 91", x, 90, 91);
        Due.is("tables stay", 5, x.of(0, 5));
        Due.is("tables stay", 8, x.of(1, 6));
        Due.is("tables stay", 2, x.of(1, 5));
        Due.is("chances stay", 0, x.chance(0));
        Due.row("chances stay", x, 4, 5);
        Due.is("what 2", -1, x.reach(0, 2));
        Due.is("what -1", -1, x.reach(0, -1));
        Due.is("no such node", -1, x.reach(2, 0));
        Due.is("node below 0", -1, x.reach(-1, 0));
        Due.row("the row stays", x, 4, 5);
        x.set(0, 0, 0);
        Due.is("the ends alone count", 0, x.reach(0, 0));
        Due.row("the ends alone count", x, 1, 10);
    }

    private static void noWeight() {
        OddsInCourt x = net();
        x.chance(0);
        x.see(1, 1);
        x.set(1, 0, 0);
        x.set(1, 1, 0);
        Due.is("now has no weight", -2, x.reach(0, 0));
        Due.is("leans", -2, x.leans(0));
        x.span(1, 1, 0, 4);
        Due.is("at one end it has", 0, x.reach(0, 0));
        Due.row("a is sure then", x, 1, 1);
        Due.is("leans asks the tables", -2, x.leans(0));
        x.span(1, 1, 0, 0);
        Due.is("in none", -2, x.reach(0, 1));
        Due.row("the row stays", x, 1, 1);
        x.set(1, 1, 3);
        x.span(1, 1, 0, 4);
        Due.is("an end without weight is left aside", 0, x.leans(0));
    }

    private static void leans() {
        OddsInCourt x = net();
        Due.is("no spans", 0, x.leans(0));
        x.span(1, 0, 0, 10);
        x.span(0, 0, 4, 6);
        Due.is("b's chance", 3, x.leans(1));
        Due.is("a's without anything seen", 2, x.leans(0));
        x.see(1, 1);
        Due.is("a's, b seen", 3, x.leans(0));
        x.span(0, 0, 5, 5);
        Due.is("a span of one number", 1, x.leans(0));
        x.see(0, 0);
        Due.is("a seen itself", 0, x.leans(0));
        Due.is("none such", -1, x.leans(2));
        Due.is("below 0", -1, x.leans(-1));
    }

    private static void forced() {
        OddsInCourt x = net();
        x.span(0, 0, 1, 9);
        x.force(0, 1);
        Due.is("a forced one's table does not matter", 0, x.leans(1));
        x.reach(1, 0);
        Due.row("least", x, 4, 5);
        x.reach(1, 1);
        Due.row("greatest", x, 4, 5);
    }
}
