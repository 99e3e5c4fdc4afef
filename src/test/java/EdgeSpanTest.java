/** Promises 26 to 28: each sentence that names an edge. */
final class EdgeSpanTest {
    private EdgeSpanTest() {
    }

    public static void main(String[] args) {
        taken();
        inPlace();
        noMore();
        refused();
        six();
        reach();
        reachWeight();
        reachRefused();
        leans();
        leansRefused();
        Due.end("EdgeSpanTest");
    }

    private static void taken() {
        OddsInCourt x = Same.rich();
        Due.is("P26 span: from 0 to D", 3, x.span(3, 0, 0, 2));
        Due.is("P26 span: of one number, 0", 4, x.span(2, 0, 0, 0));
        Due.is("P26 span: of one number, D", 5, x.span(2, 3, 5, 5));
        Due.is("P26 span: the sixth", 6, x.span(2, 1, 1, 2));
        Due.is("P26 span: counted", 6, x.count(3));
        Due.is("P26 span: the TABLE stays", 4, x.of(2, 8));
        Due.is("P26 span: the ROW stays", 4, x.count(7));
    }

    private static void inPlace() {
        OddsInCourt x = Same.rich();
        x.see(2, -1);
        x.see(1, -1);
        Due.is("P26 span: both part b", 3, x.leans(1));
        Due.is("P26 span: told again, of one number", 2, x.span(1, 0, 1, 1));
        Due.is("P26 span: in place", 2, x.leans(1));
        Due.is("P26 span: told again, the other", 2, x.span(0, 0, 1, 1));
        Due.is("P26 span: in place too", 0, x.leans(1));
        Due.is("P26 span: the first once more", 2, x.span(1, 0, 0, 4));
        Due.is("P26 span: it is the first", 1, x.leans(1));
    }

    private static void noMore() {
        Same.becomes("P26 span: low above high: no more", 1, Same::rich, x -> x.span(1, 0, 1, 0), () -> {
            OddsInCourt x = Same.rich();
            x.span(0, 0, 1, 0);
            x.span(1, 0, 1, 3);
            x.span(1, 0, 1, 0);
            x.span(0, 0, 1, 3);
            return x;
        });
        OddsInCourt z = sixSpans();
        int[][] told = {{1, 0}, {0, 0}, {2, 0}, {2, 1}, {2, 2}, {2, 3}};
        int[] gone = {1, 3, 5, 0, 4, 2};
        for (int i = 0; i < 6; i++) {
            Due.is("P26 span: no more, one by one", 5 - i, z.span(told[gone[i]][0], told[gone[i]][1], 1, 0));
        }
        OddsInCourt x = Same.rich();
        x.see(2, -1);
        x.see(1, -1);
        Due.is("P26 span: no more, the first", 1, x.span(1, 0, 4, 3));
        Due.is("P26 span: the one behind it comes ahead", 1, x.leans(0));
        Due.is("P26 span: no more, the last", 0, x.span(0, 0, 4, 0));
        Due.is("P26 span: none", 0, x.count(3));
        Due.is("P26 span: none parts", 0, x.leans(0));
        Same.refused("P26 span: none there to be no more", Same::rich, y -> y.span(3, 0, 1, 0));
        Same.refused("P26 span: none there in another case", Same::rich, y -> y.span(1, 1, 1, 0));
        Same.refused("P26 span: none there any more", () -> {
            OddsInCourt y = Same.rich();
            y.span(1, 0, 1, 0);
            return y;
        }, y -> y.span(1, 0, 1, 0));
        Same.refused("P26 span: no SPANS", () -> {
            OddsInCourt y = new OddsInCourt();
            y.node(0, 4);
            return y;
        }, y -> y.span(0, 0, 1, 0));
    }

    private static void refused() {
        Same.refused("P26 span: low below 0", Same::rich, x -> x.span(1, 0, -1, 2));
        Same.refused("P26 span: high above D", Same::rich, x -> x.span(1, 0, 1, 5));
        Same.refused("P26 span: both above D", Same::rich, x -> x.span(1, 0, 5, 5));
        Same.refused("P26 span: both below 0", Same::rich, x -> x.span(1, 0, -1, -1));
        Same.refused("P26 span: far off", Same::rich, x -> x.span(1, 0, 0, Integer.MAX_VALUE));
        Same.refused("P26 span: no such case", Same::rich, x -> x.span(1, 2, 1, 2));
        Same.refused("P26 span: no such case of one that LEANS on none", Same::rich, x -> x.span(0, 1, 1, 2));
        Same.refused("P26 span: no such case of four", Same::rich, x -> x.span(2, 4, 1, 2));
        Same.refused("P26 span: case below 0", Same::rich, x -> x.span(1, -1, 1, 2));
        Same.refused("P26 span: none such", Same::rich, x -> x.span(4, 0, 0, 0));
        Same.refused("P26 span: NODE below 0", Same::rich, x -> x.span(-1, 0, 0, 0));
        Same.refused("P26 span: no NODES", OddsInCourt::new, x -> x.span(0, 0, 0, 0));
    }

    private static OddsInCourt sixSpans() {
        OddsInCourt x = Same.rich();
        x.span(2, 0, 1, 2);
        x.span(2, 1, 1, 2);
        x.span(2, 2, 1, 4);
        x.span(2, 3, 4, 4);
        return x;
    }

    private static void six() {
        Due.is("P26 span: six", 6, sixSpans().count(3));
        Same.refused("P26 span: 6", EdgeSpanTest::sixSpans, x -> x.span(1, 1, 0, 4));
        Same.refused("P26 span: 6, none there to be no more", EdgeSpanTest::sixSpans, x -> x.span(1, 1, 1, 0));
        OddsInCourt x = sixSpans();
        Due.is("P26 span: 6, told again", 6, x.span(2, 3, 0, 4));
        Due.is("P26 span: 6, no more", 5, x.span(0, 0, 3, 2));
        Due.is("P26 span: room again", 6, x.span(1, 1, 0, 4));
        x.see(2, -1);
        x.see(1, -1);
        Due.is("P28 leans: all six, in the order told", 63, x.leans(2));
        Due.is("P26 span: 6 again", -1, x.span(0, 0, 1, 2));
    }

    /** a 5 in 10; b leans on a: 8 in 10 with it, 2 in 10 without. */
    private static OddsInCourt net() {
        OddsInCourt x = new OddsInCourt();
        x.node(0, 10);
        x.node(1, 10);
        x.set(0, 0, 5);
        x.set(1, 1, 8);
        x.set(1, 0, 2);
        x.list(2, 1, 1, 2);
        return x;
    }

    private static OddsInCourt spanned(int low, int high) {
        OddsInCourt x = net();
        x.span(0, 0, low, high);
        return x;
    }

    /** b is SEEN so; its number without a has a SPAN. */
    private static OddsInCourt seenSo(int low, int high) {
        OddsInCourt x = net();
        x.see(1, 1);
        x.span(1, 0, low, high);
        return x;
    }

    private static void reach() {
        Same.tells("P27 reach: no SPANS, least", 0, EdgeSpanTest::net, x -> x.reach(1, 0), 1, 2);
        Same.tells("P27 reach: no SPANS, greatest", 0, EdgeSpanTest::net, x -> x.reach(1, 1), 1, 2);
        Same.tells("P27 reach: least", 0, () -> spanned(0, 10), x -> x.reach(1, 0), 1, 5);
        Same.tells("P27 reach: greatest", 0, () -> spanned(0, 10), x -> x.reach(1, 1), 4, 5);
        Same.tells("P27 reach: 0 by 1", 0, () -> spanned(0, 10), x -> x.reach(0, 0), 0, 1);
        Same.tells("P27 reach: 1 by 1", 0, () -> spanned(0, 10), x -> x.reach(0, 1), 1, 1);
        Same.tells("P27 reach: one number, not the TABLE's", 0, () -> spanned(3, 3), x -> x.reach(0, 0), 3, 10);
        Same.tells("P27 reach: one number, greatest", 0, () -> spanned(3, 3), x -> x.reach(0, 1), 3, 10);
        Same.tells("P27 reach: the least at a high end", 0, () -> seenSo(0, 10), x -> x.reach(0, 0), 4, 9);
        Same.tells("P27 reach: the greatest at a low end", 0, () -> seenSo(0, 10), x -> x.reach(0, 1), 1, 1);
        Same.tells("P27 reach: the TABLE within, least", 0, () -> seenSo(1, 6), x -> x.reach(0, 0), 4, 7);
        Same.tells("P27 reach: the TABLE within, greatest", 0, () -> seenSo(1, 6), x -> x.reach(0, 1), 8, 9);
        OddsInCourt x = sixSpans();
        x.see(2, -1);
        x.see(1, -1);
        Due.is("P27 reach: by six, least", 0, x.reach(2, 0));
        long[] least = {x.row(0), x.row(1)};
        Due.is("P27 reach: by six, greatest", 0, x.reach(2, 1));
        long[] greatest = {x.row(0), x.row(1)};
        byEnds(least, greatest);
    }

    /** Sets the tables to all ends one after the other: no chance may be beyond what reach() told. */
    private static void byEnds(long[] least, long[] greatest) {
        int[][] spans = {{1, 0, 0, 2}, {0, 0, 1, 3}, {2, 0, 1, 2}, {2, 1, 1, 2}, {2, 2, 1, 4}, {2, 3, 4, 4}};
        boolean leastMet = false;
        boolean greatestMet = false;
        for (int ends = 0; ends < 64; ends++) {
            OddsInCourt x = Same.rich();
            x.see(2, -1);
            x.see(1, -1);
            for (int i = 0; i < 6; i++) {
                x.set(spans[i][0], spans[i][1], spans[i][2 + (ends >> i & 1)]);
            }
            x.chance(2);
            Due.is("P27 reach: none below", true, x.row(0) * least[1] >= least[0] * x.row(1));
            Due.is("P27 reach: none above", true, x.row(0) * greatest[1] <= greatest[0] * x.row(1));
            leastMet |= x.row(0) == least[0] && x.row(1) == least[1];
            greatestMet |= x.row(0) == greatest[0] && x.row(1) == greatest[1];
        }
        Due.is("P27 reach: the least is there", true, leastMet);
        Due.is("P27 reach: the greatest is there", true, greatestMet);
    }

    /** b is SEEN so, and by its TABLE never is; a SPAN of its number with a. */
    private static OddsInCourt never(int low, int high) {
        OddsInCourt x = net();
        x.set(1, 0, 0);
        x.set(1, 1, 0);
        x.span(1, 1, low, high);
        x.see(1, 1);
        return x;
    }

    private static void reachWeight() {
        Same.tells("P27 reach: a case without WEIGHT left aside", 0, () -> never(0, 4), x -> x.reach(0, 0), 1, 1);
        Same.tells("P27 reach: left aside, greatest", 0, () -> never(0, 4), x -> x.reach(0, 1), 1, 1);
        Same.unchanged("P27 reach: -2, no WEIGHT in any", -2, () -> never(0, 0), x -> x.reach(0, 0));
        Same.unchanged("P27 reach: -2, greatest", -2, () -> never(0, 0), x -> x.reach(0, 1));
        Same.tells("P27 reach: the TABLE has no WEIGHT, both ends have", 0, () -> never(1, 4), x -> x.reach(0, 0),
            1, 1);
        Same.unchanged("P27 reach: -2, no SPANS", -2, () -> {
            OddsInCourt x = never(0, 0);
            x.span(1, 1, 1, 0);
            return x;
        }, x -> x.reach(0, 0));
        Same.unchanged("P27 reach: -2, FORCED", -2, Same::weightless, x -> x.reach(0, 0));
    }

    private static void reachRefused() {
        Same.refused("P27 reach: what 2", Same::rich, x -> x.reach(0, 2));
        Same.refused("P27 reach: what -1", Same::rich, x -> x.reach(0, -1));
        Same.refused("P27 reach: none such", Same::rich, x -> x.reach(4, 0));
        Same.refused("P27 reach: below 0", Same::rich, x -> x.reach(-1, 0));
        Same.refused("P27 reach: none such, NOW has no WEIGHT", Same::weightless, x -> x.reach(4, 0));
        Same.refused("P27 reach: no NODES", OddsInCourt::new, x -> x.reach(0, 0));
    }

    private static void leans() {
        Same.unchanged("P28 leans: no SPANS", 0, EdgeSpanTest::net, x -> x.leans(0));
        Same.unchanged("P28 leans: least unlike greatest", 1, () -> spanned(4, 5), x -> x.leans(1));
        Same.unchanged("P28 leans: of one number", 0, () -> spanned(4, 4), x -> x.leans(1));
        Same.unchanged("P28 leans: a FORCED one's", 0, () -> {
            OddsInCourt x = spanned(0, 10);
            x.force(0, 1);
            return x;
        }, x -> x.leans(1));
        Same.unchanged("P28 leans: others as in TABLES", 2, () -> {
            // b's number without a matters only if a may fail: by the TABLE it never does
            OddsInCourt x = net();
            x.set(0, 0, 10);
            x.span(1, 0, 0, 10);
            x.span(0, 0, 0, 10);
            return x;
        }, x -> x.leans(1));
        Same.unchanged("P28 leans: an end without WEIGHT is left aside", 0, () -> {
            OddsInCourt x = never(0, 4);
            x.set(1, 1, 3);
            return x;
        }, x -> x.leans(0));
        Same.unchanged("P28 leans: -2, NOW has no WEIGHT", -2, () -> never(1, 4), x -> x.leans(0));
        Same.unchanged("P28 leans: -2, no SPANS", -2, () -> {
            OddsInCourt x = net();
            x.force(0, 0);
            x.see(0, 1);
            return x;
        }, x -> x.leans(1));
    }

    private static void leansRefused() {
        Same.refused("P28 leans: none such", Same::rich, x -> x.leans(4));
        Same.refused("P28 leans: below 0", Same::rich, x -> x.leans(-1));
        Same.refused("P28 leans: none such, NOW has no WEIGHT", Same::weightless, x -> x.leans(4));
        Same.refused("P28 leans: no NODES", OddsInCourt::new, x -> x.leans(0));
    }
}
