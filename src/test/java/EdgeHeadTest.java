/** Promises 29 to 32 and HEADS of Terms 3: each sentence that names an edge. */
final class EdgeHeadTest {
    private static final long GREATEST = 1000000000000000000L;

    private EdgeHeadTest() {
    }

    public static void main(String[] args) {
        head();
        headRefused();
        hearRefused();
        atFirst();
        byEach();
        turnedAbout();
        smallIsNever();
        tires();
        notHeard();
        tenNodes();
        byNought();
        greatest();
        tooGreat();
        errs();
        errsRefused();
        order();
        orderFive();
        orderTooGreat();
        orderRefused();
        Due.end("EdgeHeadTest");
    }

    // ---- P29

    private static void head() {
        Due.is("P29 head: HABITS 0, m 1", 1, Same.rich().head(0, 1));
        Due.is("P29 head: HABITS 31", 1, Same.rich().head(31, 1));
        Due.is("P29 head: m 99", 1, Same.rich().head(0, 99));
        OddsInCourt x = new OddsInCourt();
        for (int i = 0; i < 6; i++) {
            Due.is("T3: HEADS, at most 6", i, x.head(31 - i, 99 - i));
            Due.is("P29 head: counted", i + 1, x.count(4));
        }
    }

    private static OddsInCourt sixHeads() {
        OddsInCourt x = Same.rich();
        for (int i = 1; i < 6; i++) {
            x.head(i, i);
        }
        return x;
    }

    private static void headRefused() {
        Same.refused("P29 head: HABITS -1", Same::rich, x -> x.head(-1, 1));
        Same.refused("P29 head: HABITS 32", Same::rich, x -> x.head(32, 1));
        Same.refused("P29 head: far-off HABITS", Same::rich, x -> x.head(Integer.MIN_VALUE, 1));
        Same.refused("P29 head: m 0", Same::rich, x -> x.head(0, 0));
        Same.refused("P29 head: m 100", Same::rich, x -> x.head(0, 100));
        Same.refused("P29 head: m below 0", Same::rich, x -> x.head(0, -1));
        Same.refused("P29 head: 6", EdgeHeadTest::sixHeads, x -> x.head(0, 1));
    }

    private static void hearRefused() {
        Same.refused("P30 hear: no such HEAD", Same::rich, x -> x.hear(1, 0));
        Same.refused("P30 hear: HEAD below 0", Same::rich, x -> x.hear(-1, 0));
        Same.refused("P30 hear: no such CLAIM", Same::rich, x -> x.hear(0, 4));
        Same.refused("P30 hear: CLAIM below 0", Same::rich, x -> x.hear(0, -1));
        Same.refused("P30 hear: far off", Same::rich, x -> x.hear(Integer.MAX_VALUE, 0));
        Same.refused("P30 hear: none", OddsInCourt::new, x -> x.hear(0, 0));
        Same.refused("P30 hear: the seventh HEAD", EdgeHeadTest::sixHeads, x -> x.hear(6, 0));
    }

    // ---- P30

    /** a in parts of 10; b leans on a, in parts of 1000; c leans on none: 1 in 2. HEAD 0 as told. */
    private static OddsInCourt net(int habits, int m, int a, int with, int without) {
        OddsInCourt x = new OddsInCourt();
        x.node(0, 10);
        x.node(1, 1000);
        x.node(0, 2);
        x.set(0, 0, a);
        x.set(1, 1, with);
        x.set(1, 0, without);
        x.set(2, 0, 1);
        x.head(habits, m);
        x.list(2, 1, 1, 2);
        return x;
    }

    private static OddsInCourt seen(int habits, int m, int a, int with, int without) {
        OddsInCourt x = net(habits, m, a, with, without);
        x.see(1, 1);
        return x;
    }

    private static void atFirst() {
        Same.tells("T3: ODDS at first", 0, () -> net(0, 1, 1, 0, 0), x -> x.hear(0, 0), 1, 9);
        Same.tells("T3: ODDS at first, HABIT 1", 0, () -> net(1, 1, 1, 0, 0), x -> x.hear(0, 0), 1, 1);
        Same.tells("T3: the CLAIM never is: 0 by 1", 0, () -> net(0, 1, 0, 0, 0), x -> x.hear(0, 0), 0, 1);
        Same.unchanged("P30 hear: SURE at first, the ROW stays", 1, () -> net(0, 1, 10, 0, 0), x -> x.hear(0, 0));
        Same.unchanged("T3: SURE at first with all HABITS but 1", 1, () -> net(30, 1, 10, 0, 0),
            x -> x.hear(0, 0));
        Same.tells("T3: not SURE at first with HABIT 1", 0, () -> net(1, 1, 10, 0, 0), x -> x.hear(0, 0), 1, 1);
        Same.unchanged("T3: SURE at first, though what is SEEN never is with it", 1, () -> seen(0, 1, 10, 0, 9),
            x -> x.hear(0, 0));
        Same.unchanged("T3: a CLAIM FORCED so is SURE", 1, Same::rich, x -> x.hear(0, 3));
        Same.tells("T3: not the CLAIM itself, though SEEN", 0, () -> {
            OddsInCourt x = net(0, 1, 1, 0, 0);
            x.see(0, 1);
            return x;
        }, x -> x.hear(0, 0), 1, 9);
    }

    private static void byEach() {
        Same.tells("P30 hear: all that is SEEN", 0, Same::rich, x -> x.hear(0, 0), 2, 9);
        Same.tells("T3: times P by Q", 0, () -> seen(0, 1, 1, 900, 300), x -> x.hear(0, 0), 1, 3);
        Same.tells("T3: of not being so, SEEN not", 0, () -> {
            OddsInCourt x = seen(0, 1, 1, 900, 300);
            x.see(1, 0);
            return x;
        }, x -> x.hear(0, 0), 1, 63);
        Same.tells("T3: P 0: 0 by 1", 0, () -> seen(0, 1, 1, 0, 300), x -> x.hear(0, 0), 0, 1);
        // c SEEN, then b not; c: 14/20 with a, 6/20 without; not b behind it: 2/14 with, 3/6 without
        Same.tells("T3: HABIT 1 and no other", 0, () -> withHead(Same.rich(), 1, 1), x -> x.hear(1, 0), 2, 3);
        Same.tells("T3: HABIT 1 and no other, small", 0, () -> small(1, 1, 9999), x -> x.hear(0, 0), 5000000, 9999);
        Same.tells("T3: HABIT 8 and no other", 0, () -> withHead(Same.rich(), 8, 1), x -> x.hear(1, 0), 2, 9);
        Same.tells("T3: HABIT 16 and no other", 0, () -> withHead(Same.rich(), 16, 2), x -> x.hear(1, 0), 2, 9);
        Same.tells("T3: HABIT 4 and no other", 0, () -> withHead(Same.rich(), 4, 1), x -> x.hear(1, 0), 1, 1);
        Same.tells("T3: HABITS 2 and 4", 0, () -> withHead(Same.rich(), 6, 1), x -> x.hear(1, 0), 1, 3);
        Same.tells("T3: HABITS 1 and 2", 0, () -> withHead(Same.rich(), 3, 1), x -> x.hear(1, 0), 7, 9);
        Same.tells("T3: HABITS 4 and 16", 0, () -> withHead(Same.rich(), 20, 1), x -> x.hear(1, 0), 7, 3);
        Same.tells("T3: all HABITS", 0, () -> withHead(Same.rich(), 31, 1), x -> x.hear(1, 0), 7, 3);
        // not b as if alone: 1/4 with a, 3/4 without
        Same.tells("T3: HABIT 2: GIVEN the CLAIM alone", 0, () -> {
            OddsInCourt x = Same.rich();
            x.head(2, 1);
            return x;
        }, x -> x.hear(1, 0), 7, 27);
    }

    private static void turnedAbout() {
        Same.tells("T3: HABIT 4: (1 less Q) by Q", 0, () -> seen(4, 1, 1, 5, 250), x -> x.hear(0, 0), 3, 1);
        Same.tells("T3: HABIT 4: Q 1: 0 by 1", 0, () -> seen(4, 1, 1, 5, 1000), x -> x.hear(0, 0), 0, 1);
        Same.unchanged("T3: HABIT 4: Q 0: SURE", 1, () -> seen(4, 1, 1, 5, 0), x -> x.hear(0, 0));
        Same.unchanged("T3: HABIT 4: Q 0, P 0 too: SURE", 1, () -> seen(4, 1, 1, 0, 0), x -> x.hear(0, 0));
        Same.tells("T3: HABIT 4: nothing SEEN", 0, () -> net(4, 1, 1, 5, 0), x -> x.hear(0, 0), 1, 9);
        Same.tells("T3: HABIT 4: the last thing tells", 0, () -> {
            OddsInCourt x = seen(4, 1, 1, 5, 250);
            x.see(2, 1);
            return x;
        }, x -> x.hear(0, 0), 1, 1);
        // the CLAIM never is: nothing is GIVEN for P, so it is not heard, whatever Q
        Same.tells("T3: HABIT 4: P has nothing GIVEN", 0, () -> seen(4, 1, 0, 5, 250), x -> x.hear(0, 0), 0, 1);
    }

    /** b is so in v of 10000000 without a, in half of all cases with it. */
    private static OddsInCourt small(int habits, int m, int v) {
        OddsInCourt x = new OddsInCourt();
        x.node(0, 2);
        x.node(1, 10000000);
        x.set(0, 0, 1);
        x.set(1, 1, 5000000);
        x.set(1, 0, v);
        x.see(1, 1);
        x.head(habits, m);
        x.list(2, 1, 1, 2);
        return x;
    }

    private static void smallIsNever() {
        Same.tells("T3: HABIT 8, m 1: just 1 in 1000", 0, () -> small(8, 1, 10000), x -> x.hear(0, 0), 500, 1);
        Same.unchanged("T3: HABIT 8, m 1: below", 1, () -> small(8, 1, 9999), x -> x.hear(0, 0));
        Same.tells("T3: HABIT 8, m 4: just 1 in 4000", 0, () -> small(8, 4, 2500), x -> x.hear(0, 0), 2000, 1);
        Same.unchanged("T3: HABIT 8, m 4: below", 1, () -> small(8, 4, 2499), x -> x.hear(0, 0));
        // 1 in 99000 is 101.01 in 10000000
        Same.tells("T3: HABIT 8, m 99: not below", 0, () -> small(8, 99, 102), x -> x.hear(0, 0), 2500000, 51);
        Same.unchanged("T3: HABIT 8, m 99: below", 1, () -> small(8, 99, 101), x -> x.hear(0, 0));
        Same.tells("T3: without HABIT 8", 0, () -> small(0, 1, 9999), x -> x.hear(0, 0), 5000000, 9999);
        Same.unchanged("T3: HABITS 4 and 8: SURE", 1, () -> small(12, 1, 9999), x -> x.hear(0, 0));
        Same.tells("T3: HABITS 4 and 8: not below", 0, () -> small(12, 1, 10000), x -> x.hear(0, 0), 999, 1);
        Same.tells("T3: HABIT 8: ODDS times P is 0: not heard", 0, () -> {
            OddsInCourt x = small(8, 1, 9999);
            x.set(1, 1, 0);
            return x;
        }, x -> x.hear(0, 0), 1, 1);
    }

    /** Things b, c, d, e, SEEN in this order, by each ODDS are twice as great. */
    private static OddsInCourt doubling(int habits, int m) {
        OddsInCourt x = new OddsInCourt();
        x.node(0, 2);
        x.set(0, 0, 1);
        for (int i = 1; i < 5; i++) {
            x.node(1, 3);
            x.set(i, 1, 2);
            x.set(i, 0, 1);
            x.see(i, 1);
        }
        x.head(habits, m);
        x.list(2, 1, 1, 2);
        return x;
    }

    private static void tires() {
        for (int m = 1; m <= 3; m++) {
            int first = m;
            Same.tells("T3: HABIT 16: the first " + m, 0, () -> doubling(16, first), x -> x.hear(0, 0), 1 << m, 1);
        }
        Same.tells("T3: HABIT 16: as many as there are", 0, () -> doubling(16, 4), x -> x.hear(0, 0), 16, 1);
        Same.tells("T3: HABIT 16: more than there are", 0, () -> doubling(16, 99), x -> x.hear(0, 0), 16, 1);
        Same.tells("T3: without HABIT 16 m does not matter", 0, () -> doubling(0, 1), x -> x.hear(0, 0), 16, 1);
        Same.tells("T3: HABIT 16: heard or not", 0, () -> {
            OddsInCourt x = doubling(16, 2);
            x.set(1, 1, 0);
            x.set(1, 0, 0);
            return x;
        }, x -> x.hear(0, 0), 2, 1);
        Same.tells("T3: HABIT 16: the CLAIM is not one of them", 0, () -> {
            OddsInCourt x = doubling(16, 2);
            x.see(0, 1);
            for (int i = 1; i < 5; i++) {
                x.see(i, -1);
                x.see(i, 1);
            }
            return x;
        }, x -> x.hear(0, 0), 4, 1);
    }

    private static void notHeard() {
        Same.tells("T3: no WEIGHT for P: not heard", 0, () -> seen(1, 1, 0, 500, 250), x -> x.hear(0, 0), 1, 1);
        Same.tells("T3: no WEIGHT for Q: not heard", 0, () -> seen(1, 1, 10, 500, 250), x -> x.hear(0, 0), 1, 1);
        // b is SEEN and never is: what comes behind is GIVEN without it
        Same.tells("T3: GIVEN all that it heard ahead, no others", 0, () -> {
            OddsInCourt x = doubling(0, 1);
            x.set(1, 1, 0);
            x.set(1, 0, 0);
            return x;
        }, x -> x.hear(0, 0), 8, 1);
        // heard, P 0: GIVEN the CLAIM and that nothing has WEIGHT, so no more is heard
        Same.tells("T3: behind a P of 0 nothing is heard", 0, () -> {
            OddsInCourt x = doubling(0, 1);
            x.set(2, 1, 0);
            return x;
        }, x -> x.hear(0, 0), 0, 1);
        Same.tells("P30 hear: NOW has no WEIGHT", 0, Same::weightless, x -> x.hear(0, 0), 2, 9);
    }

    /** Ten nodes, nine of them SEEN: each makes ODDS twice as great. */
    private static void tenNodes() {
        OddsInCourt x = new OddsInCourt();
        x.node(0, 2);
        x.set(0, 0, 1);
        for (int i = 1; i < 10; i++) {
            x.node(1, 3);
            x.set(i, 1, 2);
            x.set(i, 0, 1);
            x.see(i, 1);
        }
        x.head(0, 1);
        Due.is("P30 hear: nine things", 0, x.hear(0, 0));
        Due.row("P30 hear: nine things", x, 512, 1);
        x.see(0, 0);
        Due.is("P30 hear: nine things and the CLAIM", 0, x.hear(0, 0));
        Due.row("P30 hear: nine things and the CLAIM", x, 512, 1);
        Due.is("P31 errs: nine things and the CLAIM", 0, x.errs(0, 0));
    }

    private static void byNought() {
        Same.unchanged("T3: a quotient by 0: SURE", 1, () -> seen(0, 1, 1, 1, 0), x -> x.hear(0, 0));
        Same.tells("T3: 0 by 0: not heard", 0, () -> seen(0, 1, 1, 0, 0), x -> x.hear(0, 0), 1, 9);
        Same.unchanged("T3: SURE hears no more", 1, () -> {
            OddsInCourt x = doubling(0, 1);
            x.set(1, 0, 0);
            x.set(2, 1, 0);
            return x;
        }, x -> x.hear(0, 0));
        Same.unchanged("T3: SURE by the last thing", 1, () -> {
            OddsInCourt x = doubling(0, 1);
            x.set(4, 0, 0);
            return x;
        }, x -> x.hear(0, 0));
        // b makes ODDS 0; as if alone c is 1 by 0 then: above is 0, so it is not heard
        Same.tells("T3: ODDS of 0 by 0: not heard", 0, () -> {
            OddsInCourt x = doubling(2, 1);
            x.set(1, 1, 0);
            x.set(2, 0, 0);
            return x;
        }, x -> x.hear(0, 0), 0, 1);
    }

    /**
     * a 1 in 2; things 1 to 6 of which the k-th is always so with a, and without it in 1 of 10 to the k; or, turned,
     * the other way round. Then h, in parts of 7, and i, in parts of 10, that lean on none: 3 of 7, 1 of 10.
     */
    private static OddsInCourt powers(int habits, boolean turned, int... seen) {
        OddsInCourt x = new OddsInCourt();
        x.node(0, 2);
        x.set(0, 0, 1);
        int always = turned ? 0 : 1;
        for (int k = 1; k <= 6; k++) {
            x.node(k == 1 ? 1 : 1 | 1 << (k - 1), 10);
            x.set(k, always, 10);
            x.set(k, k == 1 ? 1 - always : 3 - always, 1);
            if (k > 1) {
                x.set(k, 2 + always, 10);
            }
        }
        x.node(0, 7);
        x.set(7, 0, 3);
        x.node(0, 7);
        x.set(8, 0, 7);
        for (int node : seen) {
            x.see(node, 1);
        }
        x.head(habits, 4);
        x.list(2, 1, 1, 2);
        return x;
    }

    private static void greatest() {
        Same.tells("T3: an upper number of just 10 to the 18", 0, () -> powers(2, false, 3, 4, 5, 6),
            x -> x.hear(0, 0), GREATEST, 1);
        Same.tells("T3: a lower number of just 10 to the 18", 0, () -> powers(2, true, 3, 4, 5, 6),
            x -> x.hear(0, 0), 1, GREATEST);
        Same.tells("T3: times 1 by 1 it stays", 0, () -> powers(2, false, 3, 4, 5, 6, 8), x -> x.hear(0, 0),
            GREATEST, 1);
    }

    private static void tooGreat() {
        Same.unchanged("P30 hear: -9, the upper number", -9, () -> powers(2, false, 3, 4, 5, 6, 1),
            x -> x.hear(0, 0));
        Same.unchanged("P30 hear: -9, the lower number", -9, () -> powers(2, true, 3, 4, 5, 6, 1),
            x -> x.hear(0, 0));
        // 10 to the 18 times 3 by 7 has an upper number that is TOO GREAT, though by 3 by 7 it were well again
        Same.unchanged("T3: as soon as: the product, ahead of the quotient", -9,
            () -> powers(2, false, 3, 4, 5, 6, 7), x -> x.hear(0, 0));
        Same.unchanged("T3: as soon as: the lower number of the product", -9,
            () -> powers(2, true, 3, 4, 5, 6, 7), x -> x.hear(0, 0));
        Same.tells("T3: ahead of them it is well", 0, () -> powers(2, false, 7, 3, 4, 5, 6), x -> x.hear(0, 0),
            GREATEST, 1);
        Same.tells("T3: HABIT 16: tired ahead of it", 0, () -> powers(18, false, 3, 4, 5, 6, 1),
            x -> x.hear(0, 0), GREATEST, 1);
        Same.tells("T3: HABIT 4 makes no product", 0, () -> powers(6, false, 3, 4, 5, 6, 1), x -> x.hear(0, 0),
            9, 1);
        Same.tells("T3: GIVEN what was heard it is no news", 0, () -> powers(0, false, 6, 5, 4, 3, 2, 1),
            x -> x.hear(0, 0), 1000000, 1);
    }

    // ---- P31

    private static OddsInCourt withHead(OddsInCourt x, int habits, int m) {
        x.head(habits, m);
        return x;
    }

    private static void errs() {
        Same.unchanged("P31 errs: 0, as by all that is SEEN", 0, Same::rich, x -> x.errs(0, 0));
        Same.unchanged("P31 errs: 1, greater", 1, () -> withHead(Same.rich(), 1, 1), x -> x.errs(1, 0));
        Same.unchanged("P31 errs: 1, hardly greater", 1, () -> withHead(Same.rich(), 2, 1), x -> x.errs(1, 0));
        Same.unchanged("P31 errs: 2, less", 2, () -> seen(1, 1, 9, 500, 250), x -> x.errs(0, 0));
        Same.unchanged("P31 errs: 1, SURE, these not", 1, () -> small(8, 1, 9999), x -> x.errs(0, 0));
        Same.unchanged("P31 errs: 0, both SURE", 0, () -> seen(0, 1, 1, 1, 0), x -> x.errs(0, 0));
        Same.unchanged("P31 errs: 0, both SURE at first", 0, () -> seen(0, 1, 10, 1, 0), x -> x.errs(0, 0));
        Same.unchanged("P31 errs: 2, these SURE", 2, () -> seen(1, 1, 10, 1, 0), x -> x.errs(0, 0));
        Same.unchanged("P31 errs: 0, both 0", 0, () -> seen(0, 1, 1, 0, 300), x -> x.errs(0, 0));
        Same.unchanged("P31 errs: 0, nothing SEEN", 0, () -> net(0, 1, 1, 0, 300), x -> x.errs(0, 0));
        Same.unchanged("P31 errs: but the CLAIM", 0, () -> {
            OddsInCourt x = net(0, 1, 0, 0, 300);
            x.see(0, 1);
            return x;
        }, x -> x.errs(0, 0));
    }

    private static void errsRefused() {
        Same.unchanged("P31 errs: -2, what is SEEN has no WEIGHT", -2, Same::weightless, x -> x.errs(0, 0));
        Same.unchanged("P31 errs: it is the CLAIM alone that has none", 0, () -> {
            OddsInCourt x = Same.weightless();
            x.force(3, 0);
            x.see(3, 1);
            return x;
        }, x -> x.errs(0, 3));
        Same.unchanged("P31 errs: -9", -9, () -> powers(2, false, 3, 4, 5, 6, 1), x -> x.errs(0, 0));
        Same.unchanged("P31 errs: -2 ahead of -9", -2, () -> {
            OddsInCourt x = powers(2, false, 3, 4, 5, 6, 1);
            x.see(8, 0);
            return x;
        }, x -> x.errs(0, 0));
        Same.refused("P31 errs: no such HEAD", Same::rich, x -> x.errs(1, 0));
        Same.refused("P31 errs: HEAD below 0", Same::rich, x -> x.errs(-1, 0));
        Same.refused("P31 errs: no such CLAIM", Same::rich, x -> x.errs(0, 4));
        Same.refused("P31 errs: CLAIM below 0", Same::rich, x -> x.errs(0, -1));
        Same.refused("P31 errs: none such, NOW has no WEIGHT", Same::weightless, x -> x.errs(1, 0));
        Same.refused("P31 errs: none", OddsInCourt::new, x -> x.errs(0, 0));
    }

    // ---- P32

    private static void order() {
        Same.tells("P32 order: of equal ones the first by numbers", 0, Same::rich, x -> x.order(0, 0), 1, 2);
        Same.tells("P32 order: nothing SEEN: an empty one", 0, () -> net(0, 1, 1, 0, 0), x -> x.order(0, 0));
        Same.tells("P32 order: one thing", 0, () -> seen(0, 1, 1, 5, 7), x -> x.order(0, 0), 1);
        Same.tells("P32 order: not the CLAIM", 0, Same::rich, x -> x.order(0, 1), 2);
        Same.tells("P32 order: a is one of the things", 0, () -> {
            OddsInCourt x = Same.rich();
            x.see(0, 1);
            return x;
        }, x -> x.order(0, 1), 0, 2);
        Same.tells("P32 order: SURE at first: the first by numbers", 0, () -> {
            OddsInCourt x = seen(0, 1, 10, 5, 7);
            x.see(0, 1);
            x.see(1, -1);
            x.see(2, 1);
            x.see(1, 1);
            return x;
        }, x -> x.order(0, 0), 1, 2);
        // tired after one thing: d makes it SURE, each of the others twice as great
        Same.tells("P32 order: SURE is greatest", 0, () -> {
            OddsInCourt x = doubling(16, 1);
            x.set(3, 0, 0);
            return x;
        }, x -> x.order(0, 0), 3, 1, 2, 4);
        Same.tells("P32 order: of SURE ones the first by numbers", 0, () -> {
            OddsInCourt x = doubling(16, 1);
            x.set(3, 0, 0);
            x.set(2, 0, 0);
            return x;
        }, x -> x.order(0, 0), 2, 1, 3, 4);
        Same.tells("P32 order: the last tells, turned about", 0, () -> {
            OddsInCourt x = doubling(6, 1);
            x.set(2, 0, 0);
            x.set(2, 1, 0);
            x.see(2, 0);
            x.set(3, 0, 2);
            x.set(1, 0, 2);
            return x;
        }, x -> x.order(0, 0), 1, 2, 3, 4);
    }

    private static OddsInCourt sevenThings(int... seen) {
        OddsInCourt x = new OddsInCourt();
        x.node(0, 2);
        x.set(0, 0, 1);
        for (int i = 1; i < 8; i++) {
            x.node(1, 3);
            x.set(i, 1, 2);
            x.set(i, 0, 1);
        }
        for (int node : seen) {
            x.see(node, 1);
        }
        x.head(16, 4);
        x.list(2, 1, 1, 2);
        return x;
    }

    private static void orderFive() {
        Same.tells("P32 order: 5 things", 0, () -> sevenThings(7, 6, 5, 4, 3), x -> x.order(0, 0), 3, 4, 5, 6, 7);
        Same.tells("P32 order: 5 things and the CLAIM", 0, () -> sevenThings(7, 6, 0, 5, 4, 3),
            x -> x.order(0, 0), 3, 4, 5, 6, 7);
        // tired after four: the one that tells against is best left for the last
        Same.tells("P32 order: not the first by numbers", 0, () -> {
            OddsInCourt x = sevenThings(7, 6, 5, 4, 3);
            x.see(3, 0);
            return x;
        }, x -> x.order(0, 0), 4, 5, 6, 7, 3);
        // h tells most: tired after one thing, it comes first
        OddsInCourt y = sevenThings(3, 4, 5, 6, 7);
        for (int i = 3; i < 8; i++) {
            y.set(i, 1, i == 7 ? 3 : 2);
        }
        y.head(16, 1);
        Due.is("P32 order: the greatest first", 0, y.order(1, 0));
        Due.row("P32 order: the greatest first", y, 7, 3, 4, 5, 6);
        // many were heard of before: none of them is left behind
        OddsInCourt z = sevenThings(1, 2, 3, 4, 5, 6, 7);
        z.head(16, 1);
        z.set(2, 1, 3);
        Due.is("P30 hear: seven things, tired after four", 0, z.hear(0, 0));
        Due.row("P30 hear: seven things, tired after four", z, 24, 1);
        for (int i = 3; i < 8; i++) {
            z.see(i, -1);
        }
        Due.is("P32 order: fewer than were heard of before", 0, z.order(1, 0));
        Due.row("P32 order: fewer than were heard of before", z, 2, 1);
        Same.refused("P32 order: more than 5 things", () -> sevenThings(7, 6, 5, 4, 3, 2), x -> x.order(0, 0));
        Same.refused("P32 order: more than 5 but the CLAIM", () -> sevenThings(7, 6, 5, 4, 3, 2, 0),
            x -> x.order(0, 0));
        Same.tells("P32 order: 6 SEEN, one of them the CLAIM", 0, () -> sevenThings(7, 6, 5, 4, 3, 2),
            x -> x.order(0, 2), 3, 4, 5, 6, 7);
    }

    private static void orderTooGreat() {
        Same.unchanged("P32 order: -2, all are TOO GREAT", -2, () -> powers(2, false, 3, 4, 5, 6, 1),
            x -> x.order(0, 0));
        // h, 3 in 7, can't come behind those that make 10 to the 18
        Same.tells("P32 order: orders that are TOO GREAT left aside", 0, () -> powers(2, false, 3, 4, 5, 6, 7),
            x -> x.order(0, 0), 3, 4, 5, 7, 6);
        Same.tells("P32 order: tired after four, the fifth makes nothing TOO GREAT", 0, () -> powers(18, false, 3, 4, 5, 6, 1),
            x -> x.order(0, 0), 3, 4, 5, 6, 1);
        Same.tells("P32 order: none TOO GREAT, just 10 to the 18", 0, () -> powers(2, false, 6, 5, 4, 3),
            x -> x.order(0, 0), 3, 4, 5, 6);
    }

    private static void orderRefused() {
        Same.refused("P32 order: no such HEAD", Same::rich, x -> x.order(1, 0));
        Same.refused("P32 order: HEAD below 0", Same::rich, x -> x.order(-1, 0));
        Same.refused("P32 order: no such CLAIM", Same::rich, x -> x.order(0, 4));
        Same.refused("P32 order: CLAIM below 0", Same::rich, x -> x.order(0, -1));
        Same.refused("P32 order: none", OddsInCourt::new, x -> x.order(0, 0));
    }
}
