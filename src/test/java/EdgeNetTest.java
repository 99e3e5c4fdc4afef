/** Promises 1 to 6 and Terms 1: each sentence that names an edge. */
final class EdgeNetTest {
    private EdgeNetTest() {
    }

    public static void main(String[] args) {
        fresh();
        nodesTaken();
        nodesRefused();
        leansTaken();
        leansRefused();
        freshTable();
        casesTaken();
        setRefused();
        caseBits();
        forceTaken();
        forceRefused();
        forcedWeight();
        seeTaken();
        seeOrder();
        seeRefused();
        weightEdges();
        Due.end("EdgeNetTest");
    }

    private static void fresh() {
        for (int what = 0; what <= 10; what++) {
            Due.is("P1: count(" + what + ") of a new object", what == 9 ? 1 : 0, new OddsInCourt().count(what));
        }
        Same.throwing("P1: no ROW", OddsInCourt::new, x -> x.row(0));
        Same.throwing("P1: no NODE", OddsInCourt::new, x -> x.of(0, 0));
        for (int i = 0; i < 3; i++) {
            int under = i;
            Same.denied("P1: nothing kept under " + i, OddsInCourt::new, x -> x.again(under));
        }
        Same.unchanged("P1: one WAY, of no NODES", 1, OddsInCourt::new, x -> x.weight(0));
        Same.tells("P1: the WAY of no NODES is sure", 0, OddsInCourt::new, x -> x.likely(), 1, 1);
        Same.refused("P1: no NODE to see", OddsInCourt::new, x -> x.need(0));
        Same.refused("P1: no CLAIM", OddsInCourt::new, x -> x.chance(0));
        Same.refused("P1: no TEXT", OddsInCourt::new, x -> x.say());
        Same.refused("P1: no SAYING", OddsInCourt::new, x -> x.so(0));
        Same.refused("P1: no HEAD", OddsInCourt::new, x -> x.hear(0, 0));
        Same.refused("P1: no LAND", OddsInCourt::new, x -> x.mark(0, 0));
        Same.unchanged("P1: no LAND that counted", -2, OddsInCourt::new, x -> x.rare(0, 0));
        Same.refused("P1: no DAYS", OddsInCourt::new, x -> x.shifts(0));
        Same.refused("P1: no DAYS to count", OddsInCourt::new, x -> x.enough(1));
    }

    private static OddsInCourt deep(int... depths) {
        OddsInCourt x = new OddsInCourt();
        for (int depth : depths) {
            x.node(0, depth);
        }
        return x;
    }

    private static OddsInCourt ten() {
        return deep(2, 2, 2, 2, 2, 2, 2, 2, 2, 2);
    }

    private static void nodesTaken() {
        Due.is("T1: DEPTH 1, the least", 0, deep().node(0, 1));
        Due.is("T1: DEPTH 10000000, the greatest", 0, deep().node(0, 10000000));
        Due.is("T1: DEPTHS multiplied just 10 to the 8", 1, deep(10000000).node(0, 10));
        Due.is("T1: so by two of 10000", 1, deep(10000).node(0, 10000));
        Due.is("T1: DEPTH 1 behind 10 to the 8", 2, deep(10000000, 10).node(0, 1));
        Due.is("T1: the tenth NODE, j", 9, deep(2, 2, 2, 2, 2, 2, 2, 2, 2).node(0, 2));
        Due.is("P2 node: counted", 10, ten().count(0));
        Due.is("P2 node: DEPTHS multiplied", 1024, ten().count(9));
        OddsInCourt x = deep(10000000, 10);
        Due.is("P2 node: all DEPTHS multiplied", 100000000, x.count(9));
    }

    private static void nodesRefused() {
        Same.refused("P2 node: DEPTH 0", Same::rich, x -> x.node(0, 0));
        Same.refused("P2 node: DEPTH below 0", Same::rich, x -> x.node(0, -1));
        Same.refused("P2 node: DEPTH far below 0", Same::rich, x -> x.node(0, Integer.MIN_VALUE));
        Same.refused("P2 node: DEPTH 10000001", OddsInCourt::new, x -> x.node(0, 10000001));
        Same.refused("P2 node: DEPTH far above", OddsInCourt::new, x -> x.node(0, Integer.MAX_VALUE));
        Same.refused("P2 node: DEPTHS too great", () -> deep(10000000), x -> x.node(0, 11));
        Same.refused("P2 node: DEPTHS just too great", () -> deep(10000), x -> x.node(0, 10001));
        Same.refused("P2 node: DEPTHS of 10 to the 8 and 1", () -> deep(5882353), x -> x.node(0, 17));
        Same.refused("P2 node: DEPTHS full", () -> deep(10000000, 10), x -> x.node(0, 2));
        // 10 to the 8 times 43 comes round to 5032704 in 32 bits
        Same.refused("P2 node: DEPTHS that wrap around", () -> deep(10000000, 10), x -> x.node(0, 43));
        Same.refused("P2 node: DEPTHS of 10 to the 14", () -> deep(10000000), x -> x.node(0, 10000000));
        Same.refused("P2 node: 10", EdgeNetTest::ten, x -> x.node(0, 2));
        Same.refused("P2 node: 10, of DEPTH 1", EdgeNetTest::ten, x -> x.node(0, 1));
        OddsInCourt x = deep(10000000);
        x.node(0, 11);
        Due.is("P2 node: a refused one uses up no DEPTH", 1, x.node(0, 10));
    }

    private static void leansTaken() {
        Due.is("P2 node: LEANS on none", 3, deep(2, 2, 2).node(0, 2));
        Due.is("T1: LEANS on 3", 4, deep(2, 2, 2, 2).node(14, 2));
        Due.is("P2 node: LEANS on the last told", 3, deep(2, 2, 2).node(4, 2));
        Due.is("T1: the tenth LEANS on the ninth", 9, deep(1, 1, 1, 1, 1, 1, 1, 1, 1).node(256, 2));
    }

    private static void leansRefused() {
        Same.refused("P2 node: LEANS on 4", Same::rich, x -> x.node(15, 2));
        Same.refused("P2 node: LEANS on itself", Same::rich, x -> x.node(16, 2));
        Same.refused("P2 node: LEANS on one not told yet", Same::rich, x -> x.node(32, 2));
        Same.refused("P2 node: LEANS on one not told yet and one told", Same::rich, x -> x.node(33, 2));
        Same.refused("P2 node: LEANS on all bits", Same::rich, x -> x.node(-1, 2));
        Same.refused("P2 node: LEANS on the highest bit", Same::rich, x -> x.node(Integer.MIN_VALUE, 2));
        Same.refused("P2 node: the first LEANS on itself", OddsInCourt::new, x -> x.node(1, 2));
    }

    private static void freshTable() {
        OddsInCourt x = deep(2, 2, 2);
        int[] leans = {0, 1, 3, 7};
        int[] cases = {1, 2, 4, 8};
        for (int i = 0; i < 4; i++) {
            int node = x.node(leans[i], 3);
            for (int at = 0; at < cases[i]; at++) {
                Due.is("T1: at first 0, case " + at + " of " + cases[i], 0, x.of(node, 5 + at));
            }
            Due.noOf("T1: " + cases[i] + " cases", x, node, 5 + cases[i]);
            Due.is("P2 node: not SEEN at first", -1, x.of(node, 2));
            Due.is("P2 node: no place at first", -1, x.of(node, 3));
            Due.is("P13 cost: at first 1", 1, x.of(node, 4));
        }
        Due.is("P2 node: not FORCED at first", 0, x.count(10));
    }

    /** Nodes that lean on 0, 1, 2, 3 others, in parts of 3. */
    private static OddsInCourt stairs() {
        OddsInCourt x = new OddsInCourt();
        x.node(0, 3);
        x.node(1, 3);
        x.node(3, 3);
        x.node(7, 3);
        return x;
    }

    private static void casesTaken() {
        for (int node = 0; node < 4; node++) {
            OddsInCourt x = stairs();
            int last = (1 << node) - 1;
            Due.is("P3 set: v 0 in the first case", 0, x.set(node, 0, 0));
            Due.is("P3 set: v D in the first case", 0, x.set(node, 0, 3));
            Due.is("P3 set: v in the last case", last == 0 ? 3 : 0, x.set(node, last, 2));
            Due.is("P3 set: what it was", 2, x.set(node, last, 0));
            Due.is("P3 set: what it became", 0, x.of(node, 5 + last));
        }
        OddsInCourt x = deep(10000000);
        Due.is("P3 set: D of the greatest DEPTH", 0, x.set(0, 0, 10000000));
        Due.is("P3 set: what it was then", 10000000, x.set(0, 0, 0));
    }

    private static void setRefused() {
        for (int node = 0; node < 4; node++) {
            int one = node;
            int cases = 1 << node;
            Same.refused("P3 set: a case too many, of " + cases, EdgeNetTest::stairs, x -> x.set(one, cases, 1));
            Same.refused("P3 set: a case below 0, of " + cases, EdgeNetTest::stairs, x -> x.set(one, -1, 1));
            Same.refused("P3 set: v D + 1", EdgeNetTest::stairs, x -> x.set(one, 0, 4));
            Same.refused("P3 set: v below 0", EdgeNetTest::stairs, x -> x.set(one, 0, -1));
        }
        Same.refused("P3 set: none such", Same::rich, x -> x.set(4, 0, 0));
        Same.refused("P3 set: NODE below 0", Same::rich, x -> x.set(-1, 0, 0));
        Same.refused("P3 set: far-off NODE", Same::rich, x -> x.set(Integer.MAX_VALUE, 0, 0));
        Same.refused("P3 set: far-off case", Same::rich, x -> x.set(2, Integer.MAX_VALUE, 0));
        Same.refused("P3 set: far-below case", Same::rich, x -> x.set(2, Integer.MIN_VALUE, 0));
        Same.refused("P3 set: far-off v", Same::rich, x -> x.set(0, 0, Integer.MAX_VALUE));
        Same.refused("P3 set: no NODES", OddsInCourt::new, x -> x.set(0, 0, 0));
    }

    /** The one of the least number is bit 0. */
    private static void caseBits() {
        OddsInCourt x = deep(1, 1, 1, 1, 1);
        x.node(1 | 4 | 16, 9);
        int[] on = {1, 4, 16};
        for (int at = 0; at < 8; at++) {
            x.set(5, at, at + 1);
        }
        for (int i = 0; i < 5; i++) {
            x.force(i, 0);
        }
        for (int at = 0; at < 8; at++) {
            int way = 0;
            for (int i = 0; i < 3; i++) {
                x.force(2 * i, at >> i & 1);
                way |= (at >> i & 1) * on[i];
            }
            Due.is("T1: so by case " + at, at + 1, x.weight(way | 32));
            Due.is("T1: not so by case " + at, 8 - at, x.weight(way));
        }
    }

    private static void forceTaken() {
        OddsInCourt x = Same.rich();
        Due.is("P4 force: so", true, x.force(0, 1));
        Due.is("P4 force: bits", 1 | 8, x.count(10));
        Due.is("P4 force: not", true, x.force(0, 0));
        Due.is("P4 force: the same bits", 1 | 8, x.count(10));
        Due.is("P4 force: the TABLE stays", 1, x.of(0, 5));
        Due.is("P4 force: it is not SEEN by that", -1, x.of(0, 2));
        Due.is("P4 force: no more", true, x.force(0, -1));
        Due.is("P4 force: bit gone", 8, x.count(10));
        Due.is("P4 force: no more, one that was not", true, x.force(0, -1));
        Due.is("P4 force: bits as before", 8, x.count(10));
        OddsInCourt y = ten();
        for (int node = 0; node < 10; node++) {
            Due.is("P4 force: each of ten", true, y.force(node, node & 1));
        }
        Due.is("P4 force: all ten bits", 1023, y.count(10));
        Due.is("P4 force: of all ways one has WEIGHT", 1024, y.weight(0x2AA));
        Due.is("P4 force: another has none", 0, y.weight(0x2AB));
    }

    private static void forceRefused() {
        Same.denied("P4 force: state 2", Same::rich, x -> x.force(0, 2));
        Same.denied("P4 force: state -2", Same::rich, x -> x.force(3, -2));
        Same.denied("P4 force: far-off state", Same::rich, x -> x.force(0, Integer.MAX_VALUE));
        Same.denied("P4 force: none such", Same::rich, x -> x.force(4, 1));
        Same.denied("P4 force: none such, no more", Same::rich, x -> x.force(4, -1));
        Same.denied("P4 force: NODE below 0", Same::rich, x -> x.force(-1, 1));
        Same.denied("P4 force: far-off NODE", Same::rich, x -> x.force(35, 1));
        Same.denied("P4 force: no NODES", OddsInCourt::new, x -> x.force(0, 1));
    }

    private static void forcedWeight() {
        OddsInCourt x = deep(7);
        x.set(0, 0, 2);
        x.force(0, 1);
        Due.is("T1: FORCED so: D", 7, x.weight(1));
        Due.is("T1: FORCED so, it is not: 0", 0, x.weight(0));
        x.force(0, 0);
        Due.is("T1: FORCED not: D", 7, x.weight(0));
        Due.is("T1: FORCED not, it is: 0", 0, x.weight(1));
        Due.is("P3 set: a FORCED one's TABLE too", 2, x.set(0, 0, 5));
        Due.is("T1: whatever its TABLE", 7, x.weight(0));
        x.force(0, -1);
        Due.is("P4 force: no more: so by the TABLE", 5, x.weight(1));
        Due.is("P4 force: no more: not so by the TABLE", 2, x.weight(0));
    }

    private static void seeTaken() {
        OddsInCourt x = ten();
        for (int i = 0; i < 10; i++) {
            Due.is("P5 see: each of ten", true, x.see(9 - i, i & 1));
        }
        Due.is("P5 see: ten things", 10, x.count(1));
        for (int i = 0; i < 10; i++) {
            Due.is("P5 see: its place", i, x.of(9 - i, 3));
            Due.is("P5 see: as SEEN", i & 1, x.of(9 - i, 2));
        }
        Due.is("P5 see: again, all ten there", true, x.see(0, 0));
        Due.is("P5 see: still ten", 10, x.count(1));
        Due.is("P5 see: -1 the first of ten", true, x.see(9, -1));
        Due.is("P5 see: nine, the last at 8", 8, x.of(0, 3));
        Due.is("P5 see: the tenth again", true, x.see(9, 1));
        Due.is("P5 see: the last of ten", 9, x.of(9, 3));
        Due.is("P5 see: -1 the last of ten", true, x.see(9, -1));
        Due.is("P5 see: nine", 9, x.count(1));
        Due.is("P5 see: a FORCED one", true, Same.rich().see(3, 1));
    }

    private static void seeOrder() {
        OddsInCourt x = ten();
        x.see(4, 1);
        x.see(2, 1);
        x.see(7, 0);
        x.see(2, 0);
        Due.is("P5 see: again: it keeps its place", 1, x.of(2, 3));
        Due.is("P5 see: again: as SEEN last", 0, x.of(2, 2));
        Due.is("P5 see: -1 the first", true, x.see(4, -1));
        Due.is("P5 see: not SEEN", -1, x.of(4, 2));
        Due.is("P5 see: no place", -1, x.of(4, 3));
        Due.is("P5 see: those behind come ahead", 0, x.of(2, 3));
        Due.is("P5 see: all of them", 1, x.of(7, 3));
        x.see(4, 0);
        Due.is("P5 see: the last in order", 2, x.of(4, 3));
        Due.is("P5 see: -1 the last", true, x.see(4, -1));
        Due.is("P5 see: two are left", 2, x.count(1));
        Due.is("P5 see: -1 one not SEEN", true, x.see(4, -1));
        Due.is("P5 see: two still", 2, x.count(1));
        x.see(2, -1);
        x.see(7, -1);
        Due.is("P5 see: none left", 0, x.count(1));
        Due.is("P5 see: NOW is nothing then", 0, x.likely());
    }

    private static void seeRefused() {
        Same.denied("P5 see: state 2", Same::rich, x -> x.see(0, 2));
        Same.denied("P5 see: state 2 of one SEEN", Same::rich, x -> x.see(2, 2));
        Same.denied("P5 see: state -2", Same::rich, x -> x.see(2, -2));
        Same.denied("P5 see: none such", Same::rich, x -> x.see(4, 1));
        Same.denied("P5 see: none such, not SEEN", Same::rich, x -> x.see(4, -1));
        Same.denied("P5 see: NODE below 0", Same::rich, x -> x.see(-1, 1));
        Same.denied("P5 see: far-off NODE", Same::rich, x -> x.see(34, 1));
        Same.denied("P5 see: no NODES", OddsInCourt::new, x -> x.see(0, 1));
    }

    private static void weightEdges() {
        Same.unchanged("P6 weight: the first WAY", 0, Same::rich, x -> x.weight(0));
        Same.unchanged("P6 weight: the last WAY", 1 * 3 * 4 * 2, Same::rich, x -> x.weight(15));
        Same.refused("P6 weight: bits of no NODE", Same::rich, x -> x.weight(16));
        Same.refused("P6 weight: below 0", Same::rich, x -> x.weight(-1));
        Same.refused("P6 weight: far below 0", Same::rich, x -> x.weight(Integer.MIN_VALUE));
        Same.refused("P6 weight: a WAY of no NODES", OddsInCourt::new, x -> x.weight(1));
        Due.is("P6 weight: the last WAY of ten", 0, ten().weight(1023));
        Due.is("P6 weight: none beyond", -1, ten().weight(1024));
        OddsInCourt y = deep(3);
        Due.is("P6 weight: of one NODE", 3, y.weight(0));
        y.node(0, 5);
        Due.is("P6 weight: with a NODE told since", 15, y.weight(0));
        y.set(1, 0, 2);
        Due.is("P6 weight: with a TABLE told since", 9, y.weight(0));
        y.force(0, 1);
        Due.is("P6 weight: with one FORCED since", 0, y.weight(0));
        OddsInCourt x = deep(10000000, 10);
        Due.is("P6 weight: the greatest", 100000000, x.weight(0));
        x.set(0, 0, 10000000);
        x.set(1, 0, 10);
        Due.is("P6 weight: the greatest, all so", 100000000, x.weight(3));
    }
}
