/** Promises 1 to 6: a new object, node, set, force, see, weight. */
final class NetTest {
    private NetTest() {
    }

    public static void main(String[] args) {
        fresh();
        nodes();
        tables();
        forced();
        seen();
        weights();
        Due.end("NetTest");
    }

    private static void fresh() {
        OddsInCourt x = new OddsInCourt();
        int[] counts = {0, 0, 0, 0, 0, 0, 0, 0, 0, 1, 0};
        for (int what = 0; what < counts.length; what++) {
            Due.is("new: count(" + what + ")", counts[what], x.count(what));
        }
        Due.is("new: weight(0)", 1, x.weight(0));
        Due.is("new: weight(1)", -1, x.weight(1));
        Due.is("new: likely()", 0, x.likely());
        Due.row("new: likely()", x, 1, 1);
        Due.is("new: again(0)", false, x.again(0));
        Due.is("new: so(0)", -1, x.so(0));
        Due.is("new: hear(0, 0)", -1, x.hear(0, 0));
        Due.is("new: mark(0, 0)", -1, x.mark(0, 0));
        Due.is("new: rare(0, 0)", -2, x.rare(0, 0));
        Due.is("new: shifts(0)", -1, x.shifts(0));
    }

    private static void nodes() {
        OddsInCourt x = new OddsInCourt();
        Due.is("leans on itself", -1, x.node(1, 2));
        Due.is("bits below 0", -1, x.node(-1, 2));
        Due.is("depth 0", -1, x.node(0, 0));
        Due.is("depth below 0", -1, x.node(0, -5));
        Due.is("depth too great", -1, x.node(0, 10000001));
        Due.is("the greatest depth", 0, x.node(0, 10000000));
        Due.is("all depths too great", -1, x.node(0, 11));
        Due.is("all depths just not", 1, x.node(1, 10));
        Due.is("depths multiplied", 100000000, x.count(9));
        Due.is("one more", -1, x.node(0, 2));
        for (int i = 2; i < 10; i++) {
            Due.is("of depth 1", i, x.node(i < 4 ? (1 << i) - 1 : 7, 1));
        }
        Due.is("the eleventh", -1, x.node(0, 1));
        Due.is("nodes", 10, x.count(0));
        OddsInCourt y = new OddsInCourt();
        for (int i = 0; i < 4; i++) {
            y.node(0, 2);
        }
        Due.is("leans on four", -1, y.node(15, 2));
        Due.is("leans on three", 4, y.node(14, 2));
        Due.is("leans on what is not there", -1, y.node(32, 2));
    }

    private static void tables() {
        OddsInCourt x = new OddsInCourt();
        x.node(0, 7);
        x.node(1, 5);
        x.node(3, 4);
        Due.is("at first 0", 0, x.set(0, 0, 7));
        Due.is("what it was", 7, x.set(0, 0, 3));
        Due.is("above the depth", -1, x.set(0, 0, 8));
        Due.is("below 0", -1, x.set(0, 0, -1));
        Due.is("no such case", -1, x.set(0, 1, 1));
        Due.is("case below 0", -1, x.set(1, -1, 1));
        Due.is("two cases", -1, x.set(1, 2, 1));
        Due.is("four cases", 0, x.set(2, 3, 4));
        Due.is("no fifth", -1, x.set(2, 4, 4));
        Due.is("no such node", -1, x.set(3, 0, 0));
        Due.is("node below 0", -1, x.set(-1, 0, 0));
        Due.is("refused ones change nothing", 3, x.of(0, 5));
    }

    private static void forced() {
        OddsInCourt x = new OddsInCourt();
        x.node(0, 3);
        x.node(1, 5);
        x.set(0, 0, 1);
        x.set(1, 0, 1);
        x.set(1, 1, 4);
        Due.is("force so", true, x.force(1, 1));
        Due.is("bits", 2, x.count(10));
        Due.is("a not, b forced", 2 * 5, x.weight(2));
        Due.is("against it", 0, x.weight(0));
        Due.is("force not", true, x.force(1, 0));
        Due.is("now it is", 10, x.weight(0));
        Due.is("still one", 2, x.count(10));
        Due.is("no more", true, x.force(1, -1));
        Due.is("none", 0, x.count(10));
        Due.is("as by its table", 2 * 4, x.weight(0));
        Due.is("no more again", true, x.force(1, -1));
        Due.is("state 2", false, x.force(1, 2));
        Due.is("state -2", false, x.force(1, -2));
        Due.is("no such node", false, x.force(2, 1));
        Due.is("node below 0", false, x.force(-1, 1));
    }

    private static void seen() {
        OddsInCourt x = new OddsInCourt();
        for (int i = 0; i < 4; i++) {
            x.node(0, 2);
            x.set(i, 0, 1);
        }
        Due.is("see", true, x.see(2, 1));
        Due.is("see", true, x.see(0, 0));
        Due.is("see", true, x.see(3, 1));
        Due.is("again keeps its place", true, x.see(2, 0));
        Due.is("place", 0, x.of(2, 3));
        Due.is("as seen now", 0, x.of(2, 2));
        Due.is("not seen", true, x.see(0, -1));
        Due.is("moves up", 1, x.of(3, 3));
        Due.is("gone", -1, x.of(0, 3));
        Due.is("comes last", true, x.see(0, 1));
        Due.is("last", 2, x.of(0, 3));
        Due.is("three", 3, x.count(1));
        Due.is("not seen, unseen", true, x.see(1, -1));
        Due.is("still three", 3, x.count(1));
        Due.is("state 2", false, x.see(1, 2));
        Due.is("state -2", false, x.see(1, -2));
        Due.is("no such node", false, x.see(4, 1));
        Due.is("node below 0", false, x.see(-1, 1));
    }

    private static void weights() {
        OddsInCourt x = new OddsInCourt();
        x.node(0, 3);
        x.node(0, 4);
        x.node(3, 5);
        x.set(0, 0, 2);
        x.set(1, 0, 1);
        x.set(2, 0, 1);
        x.set(2, 1, 2);
        x.set(2, 2, 3);
        x.set(2, 3, 5);
        int[] due = {1 * 3 * 4, 2 * 3 * 3, 1 * 1 * 2, 0, 1 * 3 * 1, 2 * 3 * 2, 1 * 1 * 3, 2 * 1 * 5};
        for (int way = 0; way < 8; way++) {
            Due.is("weight(" + way + ")", due[way], x.weight(way));
        }
        Due.is("no such way", -1, x.weight(8));
        Due.is("way below 0", -1, x.weight(-1));
        x.see(0, 0);
        Due.is("what is seen does not matter", 10, x.weight(7));
        deepest();
    }

    private static void deepest() {
        OddsInCourt x = new OddsInCourt();
        x.node(0, 10000000);
        x.node(0, 10);
        x.set(0, 0, 10000000);
        x.set(1, 0, 10);
        Due.is("the greatest weight", 100000000, x.weight(3));
    }
}
