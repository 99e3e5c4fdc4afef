import java.util.NoSuchElementException;
import java.util.Random;

/** Runs of calls by lot (always the same ones) on the class and on the plain working of the document. */
final class OracleTest {
    private static final int RUNS = 400;
    private static final int CALLS = 300;

    private final Random lot;
    private final OddsInCourt x = new OddsInCourt();
    private final Oracle o = new Oracle();
    private final int run;
    private final int most;
    // in such runs nets are filled, and hardly anything is without weight
    private final boolean mild;
    private String call = "";

    private OracleTest(int run) {
        this.run = run;
        lot = new Random(run);
        most = 1 + lot.nextInt(run % 8 == 0 ? 10 : 6);
        mild = run % 2 == 1;
    }

    public static void main(String[] args) {
        int runs = args.length > 0 ? Integer.parseInt(args[0]) : RUNS;
        int first = args.length > 1 ? Integer.parseInt(args[1]) : 0;
        for (int run = first; run < first + runs; run++) {
            new OracleTest(run).go();
        }
        Due.end("OracleTest");
    }

    private void go() {
        if (mild) {
            fill();
        }
        for (int i = 0; i < CALLS; i++) {
            step(i < 30 ? lot.nextInt(mild ? 6 : 7) : lot.nextInt(54));
            rows();
        }
    }

    /** A net that needs no set() more; its depths go as far as they may. */
    private void fill() {
        int each = (int) Math.pow(100000000.0, 1.0 / most);
        for (int i = 0; i < most; i++) {
            int on = i == 0 ? 0 : lot.nextInt(3) == 0 ? lot.nextInt(1 << i) : 1 << lot.nextInt(i);
            int deep = Math.min(each - lot.nextInt(Math.max(1, each / 20)), 10000000);
            due("node(" + on + ", " + deep + ")", o.node(on, deep), x.node(on, deep));
        }
        for (int i = 0; i < o.nodes.size(); i++) {
            for (int at = 0; at < o.nodes.get(i).table.length; at++) {
                int v = number(i);
                due("set(" + i + ", " + at + ", " + v + ")", o.set(i, at, v), x.set(i, at, v));
            }
        }
    }

    private int in(int low, int high) {
        return low + lot.nextInt(high - low + 1);
    }

    private boolean often() {
        return lot.nextInt(12) != 0;
    }

    /** Mostly a node that there is. */
    private int node() {
        return often() && !o.nodes.isEmpty() ? lot.nextInt(o.nodes.size()) : in(-2, 11);
    }

    private int bits() {
        return often() ? lot.nextInt(1 << o.nodes.size()) : in(-3, 1030);
    }

    private int state() {
        return often() ? in(0, 1) : in(-3, 3);
    }

    private int number(int node) {
        int depth = node >= 0 && node < o.nodes.size() ? o.nodes.get(node).depth : 5;
        if (mild && often() && depth > 2) {
            return lot.nextInt(4) == 0 ? 1 : in(1, depth - 1);
        }
        switch (lot.nextInt(14)) {
            case 0: return 0;
            case 1: return depth;
            case 2: return depth + 1;
            case 3: return -1;
            case 4: return Math.min(depth, 1);
            default: return lot.nextInt(depth + 1);
        }
    }

    private int at(int node) {
        boolean there = node >= 0 && node < o.nodes.size();
        return often() && there ? lot.nextInt(o.nodes.get(node).table.length) : in(-2, 9);
    }

    private int depth() {
        switch (lot.nextInt(8)) {
            case 0: return in(-1, 1);
            case 1: return in(1, 200);
            case 2: return in(9999990, 10000005);
            case 3: return 1000 * in(1, 100);
            default: return in(2, 12);
        }
    }

    private void due(String what, long want, long got) {
        call = "run " + run + ": " + what;
        Due.is(call, want, got);
    }

    private void due(String what, boolean want, boolean got) {
        due(what, want ? 1 : 0, got ? 1 : 0);
    }

    private void rows() {
        Due.is(call + ", then count(7)", o.count(7), x.count(7));
        for (int i = -1; i <= o.count(7); i++) {
            long got;
            try {
                got = x.row(i);
            } catch (NoSuchElementException e) {
                got = Long.MIN_VALUE;
            }
            Due.is(call + ", then row(" + i + ")", o.row(i), got);
        }
    }

    private void step(int kind) {
        if (kind < 18) {
            net(kind);
        } else if (kind < 30) {
            texts(kind);
        } else if (kind < 42) {
            headsAndSpans(kind);
        } else {
            rest(kind);
        }
    }

    private void net(int kind) {
        int a = node();
        int b = node();
        int c = bits();
        int at = at(a);
        int v = number(a);
        int s = state();
        int d = depth();
        switch (kind) {
            case 0: case 1:
                if (o.nodes.size() < most || !often()) {
                    due("node(" + c + ", " + d + ")", o.node(c, d), x.node(c, d));
                    break;
                }
                due("set(" + a + ", " + at + ", " + v + ")", o.set(a, at, v), x.set(a, at, v));
                break;
            case 2: case 3: case 4:
                due("set(" + a + ", " + at + ", " + v + ")", o.set(a, at, v), x.set(a, at, v));
                break;
            case 5: case 7:
                s = lot.nextInt(3) == 0 ? -1 : s;
                due("see(" + a + ", " + s + ")", o.see(a, s), x.see(a, s));
                break;
            case 6:
                s = lot.nextInt(3) != 0 || mild && often() ? -1 : s;
                due("force(" + a + ", " + s + ")", o.force(a, s), x.force(a, s));
                break;
            case 8: due("weight(" + c + ")", o.weight(c), x.weight(c)); break;
            case 9: due("chance(" + a + ")", o.chance(a), x.chance(a)); break;
            case 10: due("odds(" + a + ")", o.odds(a), x.odds(a)); break;
            case 11: due("likely()", o.likely(), x.likely()); break;
            case 12: due("moves(" + a + ", " + b + ")", o.moves(a, b), x.moves(a, b)); break;
            case 13: due("most(" + a + ")", o.most(a), x.most(a)); break;
            case 14: due("worth(" + a + ", " + b + ")", o.worth(a, b), x.worth(a, b)); break;
            case 15:
                v = in(-1, 101);
                due("cost(" + a + ", " + v + ")", o.cost(a, v), x.cost(a, v));
                break;
            case 16: due("need(" + a + ")", o.need(a), x.need(a)); break;
            default:
                int g = often() && a >= 0 && b >= 0 && a < 10 && b < 10 ? c & ~(1 << a) & ~(1 << b) : c;
                due("apart(" + a + ", " + b + ", " + g + ")", o.apart(a, b, g), x.apart(a, b, g));
                due("even(" + a + ", " + b + ", " + g + ")", o.even(a, b, g), x.even(a, b, g));
                break;
        }
    }

    private String event(int deep) {
        int kind = lot.nextInt(deep > 3 ? 3 : 9);
        switch (kind) {
            case 3: case 4: return event(deep + 1) + "&" + event(deep + 1);
            case 5: return event(deep + 1) + "|" + event(deep + 1);
            case 6: return "!" + event(deep + 1);
            case 7: return "(" + event(deep + 1) + ")";
            default: return "" + (char) ('a' + lot.nextInt(o.nodes.size() + 1));
        }
    }

    /** Mostly of nodes that there are. */
    private String letterEvent(int deep) {
        String e = event(deep);
        return o.nodes.isEmpty() || !often() ? e : e.replace((char) ('a' + o.nodes.size()), 'a');
    }

    private String term() {
        if (lot.nextInt(3) == 0) {
            return in(0, 20) + ":" + (often() ? in(1, 20) : in(0, 999999999));
        }
        return letterEvent(1) + (lot.nextBoolean() ? "/" + letterEvent(2) : "");
    }

    private String text() {
        String t;
        if (lot.nextInt(4) == 0) {
            t = letterEvent(1) + "~" + letterEvent(1) + (lot.nextBoolean() ? "/" + letterEvent(1) : "");
        } else {
            t = term() + "=<>".charAt(lot.nextInt(3)) + term();
        }
        if (lot.nextInt(3) == 0) {
            int p = lot.nextInt(t.length() + 1);
            String signs = "!()|&/=<>~:0123456789abcdefghijk \u00e9\u0000";
            String one = "" + signs.charAt(lot.nextInt(signs.length()));
            t = t.substring(0, p) + (lot.nextBoolean() ? one : "")
                + t.substring(Math.min(t.length(), p + lot.nextInt(2)));
        }
        return t.length() > 60 ? t.substring(0, 60) : t;
    }

    private void texts(int kind) {
        int saying = often() && !o.sayings.isEmpty() ? lot.nextInt(o.sayings.size()) : in(-2, 13);
        int v = lot.nextInt();
        int n = in(-1, 70);
        int side = often() ? in(0, 1) : in(-1, 2);
        int slip = often() ? in(1, 4) : in(-1, 6);
        switch (kind) {
            case 18: due("sign(" + v + ")", o.sign(v), x.sign(v)); break;
            case 19: due("end(" + n + ")", o.end(n), x.end(n)); break;
            case 20: case 21: case 22:
                String t = text();
                o.end(0);
                x.end(0);
                Due.write(x, t);
                o.text = t;
                due("say() of \"" + t + "\"", o.say(), x.say());
                Due.is("signs left", 0, x.count(8));
                break;
            case 23: due("say()", o.say(), x.say()); break;
            case 24: case 25: due("so(" + saying + ")", o.so(saying), x.so(saying)); break;
            case 26: due("term(" + saying + ", " + side + ")", o.term(saying, side), x.term(saying, side)); break;
            case 27: due("slip(" + saying + ", " + slip + ")", o.slip(saying, slip), x.slip(saying, slip)); break;
            case 28: due("which(" + saying + ")", o.which(saying), x.which(saying)); break;
            default:
                int b = bits();
                due("joined(" + b + ")", o.joined(b), x.joined(b));
                rows();
                due("bounds(" + b + ")", o.bounds(b), x.bounds(b));
                break;
        }
    }

    private void headsAndSpans(int kind) {
        int a = node();
        int at = at(a);
        int low = number(a);
        int high = number(a);
        int what = often() ? in(0, 1) : in(-1, 2);
        int head = often() && !o.heads.isEmpty() ? lot.nextInt(o.heads.size()) : in(-1, 7);
        int habits = often() ? in(0, 31) : in(-2, 40);
        int m = often() ? in(1, 3) : in(-1, 101);
        switch (kind) {
            case 30: case 31:
                if (lot.nextInt(3) != 0 && low > high) {
                    int held = low;
                    low = high;
                    high = held;
                }
                due("span(" + a + ", " + at + ", " + low + ", " + high + ")",
                    o.span(a, at, low, high), x.span(a, at, low, high));
                break;
            case 32: case 33:
                if (o.nodes.size() < 7) {
                    due("reach(" + a + ", " + what + ")", o.reach(a, what), x.reach(a, what));
                }
                break;
            case 34: due("leans(" + a + ")", o.leans(a), x.leans(a)); break;
            case 35: due("head(" + habits + ", " + m + ")", o.head(habits, m), x.head(habits, m)); break;
            case 36: case 37: due("hear(" + head + ", " + a + ")", o.hear(head, a), x.hear(head, a)); break;
            case 38: case 39: due("errs(" + head + ", " + a + ")", o.errs(head, a), x.errs(head, a)); break;
            default:
                if (o.nodes.size() < 7) {
                    due("order(" + head + ", " + a + ")", o.order(head, a), x.order(head, a));
                }
                break;
        }
    }

    private void rest(int kind) {
        int a = node();
        int n = often() ? in(1, 6) : in(-1, 8);
        int what = often() ? in(0, 1) : in(-1, 2);
        switch (kind) {
            case 42: lists(); break;
            case 43: due("test(" + a + ", " + n + ", " + what + ")", o.test(a, n, what), x.test(a, n, what)); break;
            case 44: case 45: lands(); break;
            case 46: case 47:
                boolean on = lot.nextBoolean();
                boolean death = lot.nextBoolean();
                boolean looked = lot.nextInt(3) == 0;
                due("day(" + on + ", " + death + ", " + looked + ")",
                    o.day(on, death, looked), x.day(on, death, looked));
                break;
            case 48:
                due("shifts(" + what + ")", o.shifts(what), x.shifts(what));
                break;
            case 49:
                int b = often() ? in(1, 30) : in(-1, 1000001);
                due("enough(" + b + ")", o.enough(b), x.enough(b));
                break;
            case 50:
                int k = in(-1, 3);
                due("keep(" + k + ")", o.keep(k), x.keep(k));
                break;
            case 51:
                int g = in(-1, 3);
                due("again(" + g + ")", o.again(g), x.again(g));
                break;
            default:
                for (int c = -1; c <= 11; c++) {
                    due("count(" + c + ")", o.count(c), x.count(c));
                }
                for (int c = -1; c <= 13; c++) {
                    long got;
                    try {
                        got = x.of(a, c);
                    } catch (NoSuchElementException e) {
                        got = Long.MIN_VALUE;
                    }
                    due("of(" + a + ", " + c + ")", o.of(a, c), got);
                }
                break;
        }
    }

    private void lists() {
        int b = often() ? in(1, 3000) : in(-1, 1000002);
        int a = often() ? in(1, Math.max(b, 1)) : in(-1, 1000002);
        due("many(" + a + ", " + b + ")", o.many(a, b), x.many(a, b));
        int n = often() ? in(1, 3000) : in(-1, 1000002);
        int people = often() ? n + in(0, 3000) : in(-1, 100000002);
        due("list(" + people + ", " + n + ", " + a + ", " + b + ")",
            o.list(people, n, a, b), x.list(people, n, a, b));
    }

    private void lands() {
        int people = often() ? in(1, 300) : in(-1, 1000002);
        int kind = often() ? in(0, 3) : in(-1, 4);
        int n = often() ? in(0, 6) : in(-2, 8);
        int f = often() ? in(0, 60) : lot.nextInt();
        int step = often() ? in(0, 12) + (lot.nextInt(4) == 0 ? 65536 : 0) : lot.nextInt();
        due("land(" + people + ", " + kind + ", " + n + ", " + f + ", " + step + ")",
            o.land(people, kind, n, f, step), x.land(people, kind, n, f, step));
        int land = in(-1, o.lands.size());
        int mark = often() ? in(0, 5) : in(-1, 7);
        int what = often() ? in(0, 1) : in(-1, 2);
        due("mark(" + land + ", " + mark + ")", o.mark(land, mark), x.mark(land, mark));
        rows();
        due("rare(" + mark + ", " + what + ")", o.rare(mark, what), x.rare(mark, what));
    }
}
