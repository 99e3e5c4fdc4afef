import java.math.BigInteger;

/** Promises 33 to 35, and TOO GREAT of Terms 3 in test(): each sentence that names an edge. */
final class EdgeListTest {
    private EdgeListTest() {
    }

    public static void main(String[] args) {
        list();
        listRefused();
        many();
        manyCut();
        manyRefused();
        test();
        testOut();
        testRefused();
        testGreatest();
        Due.end("EdgeListTest");
    }

    private static void list() {
        Same.tells("P33 list: n 1, people 1", 0, Same::rich, x -> x.list(1, 1, 1, 2), 1, 1);
        Same.tells("P33 list: n 1, people 2", 0, Same::rich, x -> x.list(2, 1, 1, 2), 2, 3);
        Same.tells("P33 list: n 1000000, the most", 0, Same::rich, x -> x.list(1000001, 1000000, 1, 2), 2, 3);
        Same.tells("P33 list: people n", 0, Same::rich, x -> x.list(1000000, 1000000, 1, 2), 1, 1);
        Same.tells("P33 list: people 100000000, the most", 0, Same::rich, x -> x.list(100000000, 1, 1, 1),
            1, 100000000);
        Same.tells("P33 list: a, b 1", 0, Same::rich, x -> x.list(3, 1, 1, 1), 1, 3);
        Same.tells("P33 list: a, b 1000000", 0, Same::rich, x -> x.list(3, 1, 1000000, 1000000), 1, 3);
        Same.tells("P33 list: b 1000000", 0, Same::rich, x -> x.list(2, 1, 1, 1000000), 1000000, 1000001);
        Same.tells("P33 list: the greatest numbers", 0, Same::rich, x -> x.list(100000000, 1, 999999, 1000000),
            1000000, 99999900000001L);
    }

    private static void listRefused() {
        int[][] wrong = {{1, 0, 1, 2}, {1, -1, 1, 2}, {1000001, 1000001, 1, 2}, {0, 1, 1, 2}, {4, 5, 1, 2},
            {-1, 1, 1, 2}, {100000001, 1, 1, 2}, {Integer.MAX_VALUE, 1, 1, 2}, {2, 1, 0, 2}, {2, 1, -1, 2},
            {2, 1, 3, 2}, {2, 1, 1, 0}, {2, 1, 0, 0}, {2, 1, -2, -1}, {2, 1, 1, 1000001},
            {2, 1, 1000001, 1000001}, {0, 0, 1, 1}, {2, Integer.MIN_VALUE, 1, 1}};
        for (int[] w : wrong) {
            String call = "(" + w[0] + ", " + w[1] + ", " + w[2] + ", " + w[3] + ")";
            Same.refused("P33 list: others " + call, Same::rich, x -> x.list(w[0], w[1], w[2], w[3]));
        }
    }

    private static void many() {
        Same.unchanged("P34 many: everybody has it", 1, Same::rich, x -> x.many(1, 1));
        Same.unchanged("P34 many: everybody, of the most", 1, Same::rich, x -> x.many(1000000, 1000000));
        Same.unchanged("P34 many: just half is not above", 1, Same::rich, x -> x.many(1, 2));
        Same.unchanged("P34 many: hardly less than half have it", 2, Same::rich, x -> x.many(499999, 1000000));
        Same.unchanged("P34 many: more than half have it", 1, Same::rich, x -> x.many(500001, 1000000));
        Same.unchanged("P34 many: 100000, the most", 100000, Same::rich, x -> x.many(1, 144285));
        Same.unchanged("P34 many: -2, more", -2, Same::rich, x -> x.many(1, 144286));
        Same.unchanged("P34 many: -2, far more", -2, Same::rich, x -> x.many(1, 1000000));
    }

    /** Each step is cut: worked here with whole numbers of any size. */
    private static void manyCut() {
        int[][] rates = {{1, 3}, {1, 7}, {3, 1000}, {1, 9999}, {7, 999983}, {1, 100000}, {1, 144285},
            {8, 998889}, {7, 996470}};
        for (int[] rate : rates) {
            BigInteger parts = BigInteger.valueOf(1000000000);
            int looked = 0;
            while (parts.compareTo(BigInteger.valueOf(500000000)) > 0) {
                parts = parts.multiply(BigInteger.valueOf(rate[1] - rate[0])).divide(BigInteger.valueOf(rate[1]));
                looked++;
            }
            Due.is("P34 many: cut, " + rate[0] + " in " + rate[1], looked <= 100000 ? looked : -2,
                new OddsInCourt().many(rate[0], rate[1]));
        }
    }

    private static void manyRefused() {
        int[][] wrong = {{0, 1}, {-1, 1}, {2, 1}, {1, 0}, {0, 0}, {-2, -1}, {1, 1000001}, {1000001, 1000001},
            {1, Integer.MAX_VALUE}, {Integer.MIN_VALUE, 1}};
        for (int[] w : wrong) {
            Same.refused("P34 many: others (" + w[0] + ", " + w[1] + ")", Same::rich, x -> x.many(w[0], w[1]));
        }
    }

    /** a in parts of 10; b a test of it, in parts of 10; c leans on both, d on three, e on none. */
    private static OddsInCourt net(int a, int with, int without) {
        OddsInCourt x = new OddsInCourt();
        x.node(0, 10);
        x.node(1, 10);
        x.node(3, 2);
        x.node(7, 2);
        x.node(0, 2);
        x.set(0, 0, a);
        x.set(1, 1, with);
        x.set(1, 0, without);
        x.set(4, 0, 1);
        x.list(2, 1, 1, 2);
        return x;
    }

    private static void test() {
        Same.tells("P35 test: n 1", 0, () -> net(1, 9, 3), x -> x.test(1, 1, 0), 1, 4);
        Same.tells("P35 test: n 6, the most", 0, () -> net(1, 9, 3), x -> x.test(1, 6, 0), 81, 82);
        Same.tells("P35 test: of one make, n 1", 0, () -> net(1, 9, 3), x -> x.test(1, 1, 1), 1, 4);
        Same.tells("P35 test: of one make, n 6: as if once", 0, () -> net(1, 9, 3), x -> x.test(1, 6, 1), 1, 4);
        Same.tells("P35 test: always so with, and without", 0, () -> net(1, 10, 10), x -> x.test(1, 6, 0), 1, 10);
        Same.tells("P35 test: another thing SEEN", 0, () -> {
            OddsInCourt x = net(1, 9, 3);
            x.see(4, 1);
            return x;
        }, x -> x.test(1, 1, 0), 1, 4);
        Same.tells("P35 test: another thing FORCED", 0, () -> {
            OddsInCourt x = net(1, 9, 3);
            x.force(2, 1);
            return x;
        }, x -> x.test(1, 1, 0), 1, 4);
    }

    private static void testOut() {
        Same.tells("P35 test: the CLAIM has no WEIGHT: 0 by 1", 0, () -> net(0, 9, 3), x -> x.test(1, 2, 0), 0, 1);
        Same.tells("P35 test: the number with it is 0: 0 by 1", 0, () -> net(1, 0, 3), x -> x.test(1, 2, 0), 0, 1);
        Same.tells("P35 test: its not being so has no WEIGHT: 1 by 1", 0, () -> net(10, 9, 3),
            x -> x.test(1, 2, 0), 1, 1);
        Same.tells("P35 test: the number without it is 0: 1 by 1", 0, () -> net(1, 9, 0), x -> x.test(1, 2, 1),
            1, 1);
        Same.unchanged("P35 test: -2, both out by the TABLE", -2, () -> net(1, 0, 0), x -> x.test(1, 1, 0));
        Same.unchanged("P35 test: -2, out by WEIGHT and by the TABLE", -2, () -> net(0, 9, 0),
            x -> x.test(1, 1, 0));
        Same.unchanged("P35 test: -2, out by the TABLE and by WEIGHT", -2, () -> net(10, 0, 3),
            x -> x.test(1, 1, 0));
        Same.unchanged("P35 test: -2, NOW has no WEIGHT", -2, () -> {
            OddsInCourt x = net(1, 9, 3);
            x.set(4, 0, 0);
            x.see(4, 1);
            return x;
        }, x -> x.test(1, 1, 0));
    }

    private static OddsInCourt touched(int node, int state, boolean forced) {
        OddsInCourt x = net(1, 9, 3);
        if (forced) {
            x.force(node, state);
        } else {
            x.see(node, state);
        }
        return x;
    }

    private static void testRefused() {
        for (int node = 0; node < 2; node++) {
            for (int state = 0; state < 2; state++) {
                int one = node;
                int as = state;
                String who = (node == 0 ? "the CLAIM " : "the TEST ") + state;
                Same.refused("P35 test: SEEN, " + who, () -> touched(one, as, false), x -> x.test(1, 1, 0));
                Same.refused("P35 test: FORCED, " + who, () -> touched(one, as, true), x -> x.test(1, 1, 0));
            }
        }
        Same.refused("P35 test: n 0", () -> net(1, 9, 3), x -> x.test(1, 0, 0));
        Same.refused("P35 test: n 7", () -> net(1, 9, 3), x -> x.test(1, 7, 0));
        Same.refused("P35 test: n 7 of one make", () -> net(1, 9, 3), x -> x.test(1, 7, 1));
        Same.refused("P35 test: n below 0", () -> net(1, 9, 3), x -> x.test(1, -1, 0));
        Same.refused("P35 test: make 2", () -> net(1, 9, 3), x -> x.test(1, 1, 2));
        Same.refused("P35 test: make -1", () -> net(1, 9, 3), x -> x.test(1, 1, -1));
        Same.refused("P35 test: it LEANS on none", () -> net(1, 9, 3), x -> x.test(0, 1, 0));
        Same.refused("P35 test: it LEANS on two", () -> net(1, 9, 3), x -> x.test(2, 1, 0));
        Same.refused("P35 test: it LEANS on three", () -> net(1, 9, 3), x -> x.test(3, 1, 0));
        Same.refused("P35 test: none such", () -> net(1, 9, 3), x -> x.test(5, 1, 0));
        Same.refused("P35 test: below 0", () -> net(1, 9, 3), x -> x.test(-1, 1, 0));
        Same.refused("P35 test: no NODES", OddsInCourt::new, x -> x.test(0, 1, 0));
    }

    /** a in parts of its own; b a test of it in parts of 10000. */
    private static OddsInCourt deep(int a, int parts, int with, int without) {
        OddsInCourt x = new OddsInCourt();
        x.node(0, parts);
        x.node(1, 10000);
        x.set(0, 0, a);
        x.set(1, 1, with);
        x.set(1, 0, without);
        x.list(2, 1, 1, 2);
        return x;
    }

    private static void testGreatest() {
        Same.tells("P35 test: 999 to the 6th and 1", 0, () -> deep(1, 2, 999, 1), x -> x.test(1, 6, 0),
            994014980014994001L, 994014980014994002L);
        Same.unchanged("P35 test: -9, 1001 to the 6th above", -9, () -> deep(1, 2, 1001, 1), x -> x.test(1, 6, 0));
        Same.unchanged("P35 test: -9, 1001 to the 6th below", -9, () -> deep(1, 2, 1, 1001), x -> x.test(1, 6, 0));
        Same.tells("P35 test: of one make it is not TOO GREAT", 0, () -> deep(1, 2, 1001, 1),
            x -> x.test(1, 6, 1), 1001, 1002);
        Same.tells("T3: in lowest terms each time", 0, () -> deep(1, 2, 9000, 3000), x -> x.test(1, 6, 0), 729, 730);
        // ODDS 1 by 999999999 times 10 to the 16, the 9s fall away by and by
        Same.tells("T3: ODDS and the fraction crosswise", 0, () -> deep(1, 10000, 9999, 1), x -> x.test(1, 4, 0),
            999700029999L, 999700030000L);
        // ODDS 10 to the 18 by 1 are not above, the lower number in the end is 1 above
        Same.unchanged("P35 test: -9, ODDS and 1 is above 10 to the 18", -9, () -> deep(1, 2, 1000, 1),
            x -> x.test(1, 6, 0));
        Same.unchanged("P35 test: -9, the same below", -9, () -> deep(1, 2, 1, 1000), x -> x.test(1, 6, 0));
    }
}
