/** Promises 15 to 18, and TOO GREAT of Terms 3 in joined(): each sentence that names an edge. */
final class EdgeTogetherTest {
    private static final long GREATEST = 1000000000000000000L;

    private EdgeTogetherTest() {
    }

    public static void main(String[] args) {
        pairsRefused();
        apartRows();
        apartMeetings();
        apartForced();
        evenCases();
        joined();
        joinedRefused();
        joinedGreatest();
        bounds();
        boundsRefused();
        Due.end("EdgeTogetherTest");
    }

    private static void pairsRefused() {
        int[][] wrong = {{0, 0, 0}, {3, 3, 0}, {4, 0, 0}, {0, 4, 0}, {-1, 0, 0}, {0, -1, 0}, {0, 1, 1}, {0, 1, 2},
            {0, 1, 7}, {0, 3, 8}, {0, 1, 16}, {0, 1, 20}, {0, 1, -1}, {0, 1, Integer.MIN_VALUE}, {32, 1, 0},
            {0, Integer.MAX_VALUE, 0}, {Integer.MIN_VALUE, 0, 0}};
        for (int[] w : wrong) {
            String call = "(" + w[0] + ", " + w[1] + ", " + w[2] + ")";
            Same.refused("P15 apart" + call, Same::rich, x -> x.apart(w[0], w[1], w[2]));
            Same.refused("P16 even" + call, Same::rich, x -> x.even(w[0], w[1], w[2]));
        }
        Same.refused("P15 apart: no NODES", OddsInCourt::new, x -> x.apart(0, 1, 0));
        Same.refused("P16 even: no NODES", OddsInCourt::new, x -> x.even(0, 1, 0));
    }

    /** A net by what each leans on, all in parts of 2, in each case as often so as not. */
    private static OddsInCourt net(int... leans) {
        OddsInCourt x = new OddsInCourt();
        for (int i = 0; i < leans.length; i++) {
            x.node(leans[i], 2);
            for (int at = 0; at < 1 << Integer.bitCount(leans[i]); at++) {
                x.set(i, at, 1);
            }
        }
        return x;
    }

    private static void apartRows() {
        Same.unchanged("P15 apart: by no row", 1, Same::rich, x -> x.apart(0, 3, 0));
        Same.unchanged("P15 apart: neighbours, all others GIVEN", 0, Same::rich, x -> x.apart(0, 1, 12));
        Same.unchanged("P15 apart: the last two", 1, Same::rich, x -> x.apart(3, 2, 3));
        Same.unchanged("P15 apart: NOW does not matter", 0, Same::weightless, x -> x.apart(2, 0, 2));
        OddsInCourt chain = net(0, 1, 2, 4, 8, 16, 32, 64, 128, 256);
        Due.is("P15 apart: a row of all ten", 0, chain.apart(0, 9, 0));
        Due.is("P15 apart: back again", 0, chain.apart(9, 0, 0));
        for (int i = 1; i < 9; i++) {
            Due.is("P15 apart: one in the midst GIVEN, " + i, 1, chain.apart(0, 9, 1 << i));
            Due.is("P15 apart: back, one in the midst GIVEN, " + i, 1, chain.apart(9, 0, 1 << i));
        }
        OddsInCourt fork = net(0, 1, 1);
        Due.is("P15 apart: both lean on one", 0, fork.apart(1, 2, 0));
        Due.is("P15 apart: which is GIVEN", 1, fork.apart(1, 2, 1));
    }

    private static void apartMeetings() {
        OddsInCourt x = net(0, 0, 3, 4, 8);
        Due.is("P15 apart: one that LEANS on both is not free", 1, x.apart(0, 1, 0));
        Due.is("P15 apart: it is GIVEN", 0, x.apart(0, 1, 4));
        Due.is("P15 apart: one that LEANS on it is", 0, x.apart(0, 1, 8));
        Due.is("P15 apart: also by some", 0, x.apart(0, 1, 16));
        Due.is("P15 apart: all of them", 0, x.apart(0, 1, 28));
        OddsInCourt far = net(0, 0, 3, 4, 8, 16, 32, 64, 128, 256);
        for (int given = 2; given < 10; given++) {
            Due.is("P15 apart: also by some, as far down as " + given, 0, far.apart(0, 1, 1 << given));
            Due.is("P15 apart: back, as far down as " + given, 0, far.apart(1, 0, 1 << given));
        }
        far.force(8, 1);
        Due.is("P15 apart: as far down as 9, FORCED between", 1, far.apart(0, 1, 512));
        // from a to d a row goes by c, which LEANS on a and b, and by b, on which d LEANS
        OddsInCourt y = net(0, 0, 3, 2);
        Due.is("P15 apart: through b, a meeting ahead of it", 1, y.apart(0, 3, 0));
        Due.is("P15 apart: the meeting GIVEN", 0, y.apart(0, 3, 4));
        Due.is("P15 apart: the meeting and b GIVEN", 1, y.apart(0, 3, 6));
        // from a to d a row goes by c, which LEANS on a, and by e, which LEANS on c and d
        OddsInCourt z = net(0, 0, 3, 0, 12);
        Due.is("P15 apart: d and a meet in e, by c", 1, z.apart(0, 3, 0));
        Due.is("P15 apart: e GIVEN", 0, z.apart(0, 3, 16));
        Due.is("P15 apart: e and c GIVEN", 1, z.apart(0, 3, 20));
    }

    private static void apartForced() {
        OddsInCourt x = net(0, 1, 2);
        x.force(1, 1);
        Due.is("P15 apart: FORCED, it LEANS on none", 1, x.apart(0, 1, 0));
        Due.is("P15 apart: nor goes a row through it so", 1, x.apart(0, 2, 0));
        Due.is("P15 apart: others LEAN on it", 0, x.apart(1, 2, 0));
        OddsInCourt y = net(0, 0, 3, 4);
        y.force(2, 0);
        Due.is("P15 apart: a FORCED meeting, GIVEN", 1, y.apart(0, 1, 4));
        y.force(2, -1);
        y.force(3, 0);
        Due.is("P15 apart: what is GIVEN below is FORCED", 1, y.apart(0, 1, 8));
        y.force(3, -1);
        Due.is("P15 apart: no more FORCED", 0, y.apart(0, 1, 8));
        OddsInCourt z = net(0, 1, 1);
        z.force(0, 1);
        Due.is("P15 apart: a FORCED one on which both LEAN", 0, z.apart(1, 2, 0));
    }

    private static void evenCases() {
        Same.unchanged("P16 even: by the numbers", 1, Same::rich, x -> x.even(0, 3, 0));
        Same.unchanged("P16 even: not so", 0, Same::rich, x -> x.even(0, 1, 0));
        Same.unchanged("P16 even: GIVEN all others", 0, Same::rich, x -> x.even(0, 1, 12));
        Same.unchanged("P16 even: NOW does not matter", 1, Same::weightless, x -> x.even(3, 2, 3));
        OddsInCourt x = net(0, 1, 1);
        x.set(1, 1, 2);
        x.set(2, 1, 2);
        x.set(1, 0, 0);
        x.set(2, 0, 0);
        Due.is("P16 even: both are as the third", 0, x.even(1, 2, 0));
        Due.is("P16 even: GIVEN it, in both cases", 1, x.even(1, 2, 1));
        // b and c hang together if a is so; a never is
        OddsInCourt y = net(0, 0, 3);
        y.set(0, 0, 0);
        y.set(2, 3, 2);
        Due.is("P16 even: a case without WEIGHT does not count", 1, y.even(1, 2, 1));
        y.set(0, 0, 1);
        Due.is("P16 even: it has WEIGHT", 0, y.even(1, 2, 1));
        y.set(0, 0, 2);
        Due.is("P16 even: it has all WEIGHT", 0, y.even(1, 2, 1));
        y.set(2, 3, 1);
        y.set(2, 2, 2);
        Due.is("P16 even: the other case has none", 1, y.even(1, 2, 1));
        y.set(0, 0, 0);
        Due.is("P16 even: the other case has all", 0, y.even(1, 2, 1));
        y.force(0, 1);
        Due.is("P16 even: FORCED ones do matter", 1, y.even(1, 2, 1));
        OddsInCourt z = net(0, 0, 0, 0, 0, 0, 0, 0, 0, 7);
        Due.is("P16 even: eight GIVEN of ten", 1, z.even(0, 9, 510));
        for (int at = 0; at < 8; at++) {
            z.set(9, at, 2);
            Due.is("P16 even: one case of them, " + at, 0, z.even(0, 9, 510));
            z.set(9, at, 1);
        }
    }

    private static void joined() {
        Same.tells("P17 joined: one", 0, Same::rich, x -> x.joined(1), 2, 11, 2, 11);
        Same.tells("P17 joined: the last one", 0, Same::rich, x -> x.joined(8), 1, 1, 1, 1);
        Same.tells("P17 joined: all, one of them SEEN not to be", 0, Same::rich, x -> x.joined(15), 0, 1, 0, 1);
        Same.tells("P17 joined: SEEN so and FORCED so", 0, Same::rich, x -> x.joined(13), 2, 11, 2, 11);
        Same.unchanged("P17 joined: NOW has no WEIGHT", -2, Same::weightless, x -> x.joined(1));
        OddsInCourt x = net(0, 0, 0, 0, 0, 0, 0, 0, 0, 0);
        Due.is("P17 joined: all ten", 0, x.joined(1023));
        Due.row("P17 joined: all ten", x, 1, 1024, 1, 1024);
    }

    private static void joinedRefused() {
        Same.refused("P17 joined: none", Same::rich, x -> x.joined(0));
        Same.refused("P17 joined: none, NOW has no WEIGHT", Same::weightless, x -> x.joined(0));
        Same.refused("P17 joined: none such", Same::rich, x -> x.joined(16));
        Same.refused("P17 joined: one and none such", Same::rich, x -> x.joined(17));
        Same.refused("P17 joined: below 0", Same::rich, x -> x.joined(-1));
        Same.refused("P17 joined: far below 0", Same::rich, x -> x.joined(Integer.MIN_VALUE));
        Same.refused("P17 joined: no NODES", OddsInCourt::new, x -> x.joined(1));
        Same.refused("P17 joined: none of no NODES", OddsInCourt::new, x -> x.joined(0));
    }

    /** a in parts of depth, b in 10 times that, c in 100 times that: lower numbers depth to the 3rd by 1000. */
    private static OddsInCourt chain(int depth, int never) {
        OddsInCourt x = new OddsInCourt();
        x.node(0, never == 0 ? 1 : depth);
        int a = never == 0 ? 1 : 0;
        if (never == 0) {
            x.node(0, depth);
        }
        x.set(a, 0, 1);
        for (int i = a + 1; i < a + 3; i++) {
            x.node(1 << (i - 1), 10);
            x.set(i, 1, 3);
            x.set(i, 0, 2);
        }
        if (never == 3) {
            x.node(0, 1);
        }
        x.list(2, 1, 1, 2);
        return x;
    }

    private static void joinedGreatest() {
        Same.tells("T3: a lower number of just 10 to the 18 in joined()", 0, () -> chain(100000, -1),
            x -> x.joined(7), 200001L * 2200001L, GREATEST, 9, 10000000);
        // 100003 to the 3rd times 1000: 0.009 in 100 above 10 to the 18
        Same.unchanged("P17 joined: -9, just above 10 to the 18", -9, () -> chain(100003, -1), x -> x.joined(7));
        Same.unchanged("T3: as soon as, though the last is never so", -9, () -> chain(100003, 3),
            x -> x.joined(15));
        Same.tells("T3: the first is never so: 0 by 1 at once", 0, () -> chain(100003, 0), x -> x.joined(15),
            0, 1, 0, 1);
        Same.tells("P18 bounds: none is TOO GREAT", 0, () -> chain(100003, -1), x -> x.bounds(7), 0, 1, 1, 100003);
    }

    private static OddsInCourt sure(int a, int b, int c) {
        OddsInCourt x = new OddsInCourt();
        x.node(0, 10);
        x.node(0, 10);
        x.node(0, 10);
        x.set(0, 0, a);
        x.set(1, 0, b);
        x.set(2, 0, c);
        return x;
    }

    private static void bounds() {
        Same.tells("P18 bounds: one", 0, Same::rich, x -> x.bounds(1), 2, 11, 2, 11);
        Same.tells("P18 bounds: one SEEN not to be", 0, Same::rich, x -> x.bounds(15), 0, 1, 0, 1);
        Same.tells("P18 bounds: all SEEN or FORCED so", 0, Same::rich, x -> x.bounds(12), 1, 1, 1, 1);
        Same.tells("P18 bounds: the sum less 3, and 1", 0, () -> sure(9, 8, 7), x -> x.bounds(7), 2, 5, 7, 10);
        Same.tells("P18 bounds: just above 0", 0, () -> sure(9, 8, 4), x -> x.bounds(7), 1, 10, 2, 5);
        Same.tells("P18 bounds: just 0", 0, () -> sure(9, 8, 3), x -> x.bounds(7), 0, 1, 3, 10);
        Same.tells("P18 bounds: 0 at least", 0, () -> sure(9, 8, 2), x -> x.bounds(7), 0, 1, 1, 5);
        Same.tells("P18 bounds: far below", 0, () -> sure(1, 1, 2), x -> x.bounds(7), 0, 1, 1, 10);
        Same.unchanged("P18 bounds: NOW has no WEIGHT", -2, Same::weightless, x -> x.bounds(1));
    }

    private static void boundsRefused() {
        Same.refused("P18 bounds: none", Same::rich, x -> x.bounds(0));
        Same.refused("P18 bounds: none, NOW has no WEIGHT", Same::weightless, x -> x.bounds(0));
        Same.refused("P18 bounds: none such", Same::rich, x -> x.bounds(16));
        Same.refused("P18 bounds: one and none such", Same::rich, x -> x.bounds(24));
        Same.refused("P18 bounds: below 0", Same::rich, x -> x.bounds(-1));
        Same.refused("P18 bounds: far below 0", Same::rich, x -> x.bounds(Integer.MIN_VALUE));
        Same.refused("P18 bounds: no NODES", OddsInCourt::new, x -> x.bounds(1));
    }
}
