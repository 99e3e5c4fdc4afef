/** Promises 42 to 46: each sentence that names an edge. */
final class EdgeKeptTest {
    private EdgeKeptTest() {
    }

    public static void main(String[] args) {
        keep();
        keepRefused();
        again();
        againOften();
        since();
        notKept();
        againRefused();
        count();
        countRefused();
        of();
        ofThrows();
        row();
        rowThrows();
        rowStays();
        Due.end("EdgeKeptTest");
    }

    // ---- P42, P43

    private static OddsInCourt keptUnder(int i) {
        OddsInCourt x = Same.rich();
        x.keep(i);
        return x;
    }

    private static void keep() {
        for (int i = 0; i < 3; i++) {
            int under = i;
            Due.is("P42 keep: under " + i, true, Same.rich().keep(i));
            Same.becomes("P42 keep: at once again, under " + i, 1, () -> keptUnder(under),
                x -> x.again(under) ? 1 : 0, () -> keptUnder(under));
        }
        Due.is("P42 keep: nothing at all", true, new OddsInCourt().keep(0));
        OddsInCourt x = Same.rich();
        x.keep(2);
        Due.is("P42 keep: the ROW stays", 4, x.count(7));
        Due.is("P42 keep: THE TEXT stays", 5, x.count(8));
    }

    private static void keepRefused() {
        Same.denied("P42 keep: under -1", Same::rich, x -> x.keep(-1));
        Same.denied("P42 keep: under 3", Same::rich, x -> x.keep(3));
        Same.denied("P42 keep: far off", Same::rich, x -> x.keep(Integer.MAX_VALUE));
        Same.denied("P42 keep: far below", Same::rich, x -> x.keep(Integer.MIN_VALUE));
    }

    /** All that is kept is changed: FORCED, SEEN, TABLES, COSTS. */
    private static void change(OddsInCourt x) {
        x.force(0, 0);
        x.force(3, -1);
        x.see(1, 1);
        x.see(2, -1);
        x.see(0, 1);
        x.see(3, 0);
        for (int node = 0; node < 4; node++) {
            x.cost(node, 50 + node);
            int cases = 1 << Integer.bitCount(x.of(node, 0));
            for (int at = 0; at < cases; at++) {
                x.set(node, at, 0);
            }
        }
    }

    private static void again() {
        for (int i = 0; i < 3; i++) {
            int under = i;
            Same.becomes("P43 again: as it was kept under " + i, 1, () -> {
                OddsInCourt x = keptUnder(under);
                change(x);
                return x;
            }, x -> x.again(under) ? 1 : 0, () -> keptUnder(under));
        }
        OddsInCourt x = Same.rich();
        change(x);
        x.weight(0);
        Due.is("P43 again: as kept under 1", true, x.again(1));
        Due.is("P43 again: what is SEEN then", 1, x.count(1));
        Due.is("P43 again: c is", 1, x.of(2, 2));
        Due.is("P43 again: at its place", 0, x.of(2, 3));
        Due.is("P43 again: what is FORCED then", 0, x.count(10));
        Due.is("P43 again: COSTS then", 3, x.of(1, 4));
        Due.is("P43 again: COSTS then, of c", 1, x.of(2, 4));
        Due.is("P43 again: TABLES then", 4, x.of(2, 8));
        Due.is("P43 again: WEIGHTS by them", 1 * 3 * 4 * 1, x.weight(15));
    }

    private static void againOften() {
        OddsInCourt x = keptUnder(0);
        for (int times = 0; times < 3; times++) {
            change(x);
            Due.is("P43 again: as often as wanted", true, x.again(0));
            Due.is("P43 again: SEEN, time " + times, 2, x.count(1));
            Due.is("P43 again: its order, time " + times, 1, x.of(1, 3));
            Due.is("P43 again: FORCED, time " + times, 8, x.count(10));
            Due.is("P43 again: FORCED so, time " + times, 1 * 3 * 4 * 2, x.weight(15));
        }
        Due.is("P43 again: another in between", true, x.again(1));
        Due.is("P43 again: the other", 1, x.count(1));
        Due.is("P43 again: the first once more", true, x.again(0));
        Due.is("P43 again: the first", 2, x.count(1));
        Due.is("P42 keep: anew under the same number", true, x.again(1) && x.keep(0));
        change(x);
        Due.is("P42 keep: anew, told", true, x.again(0));
        Due.is("P42 keep: it is the new one", 1, x.count(1));
    }

    private static void since() {
        OddsInCourt x = keptUnder(0);
        int node = x.node(1 | 8, 3);
        for (int at = 0; at < 4; at++) {
            x.set(node, at, at);
        }
        x.cost(node, 44);
        x.force(node, 1);
        x.see(node, 0);
        Due.is("P43 again: NODES told since", true, x.again(0));
        Due.is("P43 again: they are there", 5, x.count(0));
        Due.is("P43 again: they LEAN as told", 9, x.of(node, 0));
        for (int at = 0; at < 4; at++) {
            Due.is("P43 again: they keep their TABLES", at, x.of(node, 5 + at));
        }
        Due.is("P43 again: they keep their COSTS", 44, x.of(node, 4));
        Due.is("P43 again: they are not SEEN", -1, x.of(node, 2));
        Due.is("P43 again: they have no place", -1, x.of(node, 3));
        Due.is("P43 again: things SEEN", 2, x.count(1));
        Due.is("P43 again: they are not FORCED", 8, x.count(10));
        // a not, d so: case 2 of 3
        Due.is("P43 again: WEIGHT by their TABLE, so", x.weight(8) * 2, x.weight(8 | 16));
        x.see(node, 1);
        Due.is("P43 again: SEEN anew, the last", 2, x.of(node, 3));
        OddsInCourt y = new OddsInCourt();
        y.keep(2);
        for (int i = 0; i < 10; i++) {
            y.node(0, 2);
            y.set(i, 0, 1);
            y.see(i, 1);
            y.force(i, 1);
        }
        Due.is("P43 again: all ten told since", true, y.again(2));
        Due.is("P43 again: none SEEN", 0, y.count(1));
        Due.is("P43 again: none FORCED", 0, y.count(10));
        Due.is("P43 again: ten there", 10, y.count(0));
        Due.is("P43 again: by their TABLES", 1, y.weight(1023));
    }

    /** Of all else nothing is kept. */
    private static void notKept() {
        OddsInCourt x = keptUnder(0);
        x.say();
        x.span(3, 0, 0, 1);
        x.head(5, 5);
        x.land(5, 3, 0, 0, 0);
        x.day(true, false, false);
        x.shifts(0);
        x.sign(0);
        Due.is("P43 again", true, x.again(0));
        int[] due = {4, 2, 3, 3, 2, 3, 4, 3, 4, 160, 8};
        for (int what = 0; what < due.length; what++) {
            Due.is("P43 again: count(" + what + ") then", due[what], x.count(what));
        }
    }

    private static void againRefused() {
        Same.denied("P43 again: nothing kept under 0", Same::rich, x -> x.again(0));
        Same.denied("P43 again: nothing kept under 2", Same::rich, x -> x.again(2));
        Same.denied("P43 again: under -1", Same::rich, x -> x.again(-1));
        Same.denied("P43 again: under 3", Same::rich, x -> x.again(3));
        Same.denied("P43 again: far off", Same::rich, x -> x.again(Integer.MAX_VALUE));
        Same.denied("P43 again: a new object", OddsInCourt::new, x -> x.again(1));
    }

    // ---- P44 to P46

    private static void count() {
        int[] due = {4, 2, 2, 2, 1, 2, 3, 4, 5, 160, 8};
        for (int i = 0; i < due.length; i++) {
            int what = i;
            Same.unchanged("P44 count: what " + i, due[i], Same::rich, x -> x.count(what));
        }
    }

    private static void countRefused() {
        Same.refused("P44 count: what 11", Same::rich, x -> x.count(11));
        Same.refused("P44 count: what -1", Same::rich, x -> x.count(-1));
        Same.refused("P44 count: far off", Same::rich, x -> x.count(Integer.MAX_VALUE));
        Same.refused("P44 count: far below", Same::rich, x -> x.count(Integer.MIN_VALUE));
    }

    private static void of() {
        int[][] due = {{0, 4, -1, -1, 1, 1}, {1, 4, 0, 1, 3, 1, 3}, {3, 5, 1, 0, 7, 1, 2, 3, 4}, {0, 2, -1, -1, 1, 1}};
        for (int i = 0; i < 4; i++) {
            for (int j = 0; j < due[i].length; j++) {
                int node = i;
                int what = j;
                Same.unchanged("P45 of: NODE " + i + ", what " + j, due[i][j], Same::rich, x -> x.of(node, what));
            }
        }
        OddsInCourt x = new OddsInCourt();
        for (int i = 0; i < 3; i++) {
            x.node(0, 1);
        }
        x.node(7, 9);
        x.set(3, 7, 8);
        Due.is("P45 of: the eighth case", 8, x.of(3, 12));
        Due.noOf("P45 of: no ninth", x, 3, 13);
    }

    private static void ofThrows() {
        Same.throwing("P45 of: none such", Same::rich, x -> x.of(4, 0));
        Same.throwing("P45 of: below 0", Same::rich, x -> x.of(-1, 0));
        Same.throwing("P45 of: what -1", Same::rich, x -> x.of(0, -1));
        int[] cases = {1, 2, 4, 1};
        for (int i = 0; i < 4; i++) {
            int node = i;
            Same.throwing("P45 of: a case too many, NODE " + i, Same::rich, x -> x.of(node, 5 + cases[node]));
        }
        Same.throwing("P45 of: far-off what", Same::rich, x -> x.of(0, Integer.MAX_VALUE));
        Same.throwing("P45 of: far-below what", Same::rich, x -> x.of(0, Integer.MIN_VALUE));
        Same.throwing("P45 of: what that wraps around to a case", Same::rich, x -> x.of(2, Integer.MIN_VALUE + 5));
        Same.throwing("P45 of: far-off NODE", Same::rich, x -> x.of(Integer.MAX_VALUE, 0));
        Same.throwing("P45 of: no NODES", OddsInCourt::new, x -> x.of(0, 0));
    }

    private static void row() {
        Same.unchanged("P46 row: the first", 2, Same::rich, x -> x.row(0));
        Same.unchanged("P46 row: the last of four", 5, Same::rich, x -> x.row(3));
        OddsInCourt x = Same.rich();
        x.shifts(0);
        Due.is("P46 row: three numbers", 3, x.count(7));
        Due.noRow("P46 row: a shorter ROW", x, 3);
        x.chance(0);
        Due.row("P46 row: a shorter ROW still", x, 2, 11);
        x.order(0, 2);
        Due.row("P46 row: one number", x, 1);
        x.see(1, -1);
        x.see(2, -1);
        x.order(0, 0);
        Due.row("P46 row: none, an empty order", x);
        x.joined(1);
        Due.is("P46 row: four again", 4, x.count(7));
    }

    private static void stays(String call, long due, Same.Asking asking) {
        OddsInCourt x = Same.rich();
        Due.is("T3: " + call + " is taken", due, asking.ask(x));
        Due.row("T3: ROW, numbers told last by a call that says so: not by " + call, x, 2, 5, 2, 5);
    }

    private static void rowStays() {
        stays("node", 4, x -> x.node(0, 2));
        stays("set", 1, x -> x.set(0, 0, 3));
        stays("force", 1, x -> x.force(0, 1) ? 1 : 0);
        stays("see", 1, x -> x.see(0, 1) ? 1 : 0);
        stays("weight", 0, x -> x.weight(0));
        stays("cost", 1, x -> x.cost(0, 9));
        stays("apart", 0, x -> x.apart(0, 1, 0));
        stays("even", 0, x -> x.even(0, 1, 0));
        stays("sign", 9, x -> x.sign(0));
        stays("end", 1, x -> x.end(0) ? 1 : 0);
        stays("say", 2, x -> x.say());
        stays("so", 1, x -> x.so(0));
        stays("slip", 0, x -> x.slip(0, 1));
        stays("which", 0, x -> x.which(0));
        stays("span", 3, x -> x.span(1, 1, 0, 1));
        stays("leans", 2 | 1, x -> x.leans(0));
        stays("head", 1, x -> x.head(0, 1));
        stays("errs", 0, x -> x.errs(0, 0));
        stays("many", 1, x -> x.many(1, 2));
        stays("land", 2, x -> x.land(10, 0, 1, 1, 1));
        stays("rare", 0, x -> x.rare(0, 0));
        stays("day", 4, x -> x.day(true, true, true));
        stays("enough", 0, x -> x.enough(3));
        stays("keep", 1, x -> x.keep(0) ? 1 : 0);
        stays("again", 1, x -> x.again(1) ? 1 : 0);
        stays("count", 4, x -> x.count(0));
        stays("of", 4, x -> x.of(0, 1));
        stays("row", 2, x -> x.row(0));
    }

    private static void rowThrows() {
        Same.throwing("P46 row: the fifth of four", Same::rich, x -> x.row(4));
        Same.throwing("P46 row: below 0", Same::rich, x -> x.row(-1));
        Same.throwing("P46 row: far off", Same::rich, x -> x.row(Integer.MAX_VALUE));
        Same.throwing("P46 row: far below", Same::rich, x -> x.row(Integer.MIN_VALUE));
        Same.throwing("P46 row: no ROW yet", OddsInCourt::new, x -> x.row(0));
    }
}
