import java.math.BigInteger;
import java.util.ArrayList;
import java.util.Arrays;
import java.util.List;
import java.util.TreeSet;

/**
 * The document worked slowly and plainly, with big numbers, lists and all ways gone through each
 * time: what OracleTest holds the class against.
 */
final class Oracle {
    static final int NONE = -1;
    private static final BigInteger LIMIT = BigInteger.TEN.pow(18);

    /** Thrown when a product or quotient is too great. */
    static final class TooGreat extends Exception {
        private static final long serialVersionUID = 1L;
    }

    record Frac(BigInteger up, BigInteger low) {
        static Frac of(long up, long low) {
            return of(BigInteger.valueOf(up), BigInteger.valueOf(low));
        }

        static Frac of(BigInteger up, BigInteger low) {
            BigInteger g = up.gcd(low);
            BigInteger u = up.divide(g);
            BigInteger l = low.divide(g);
            return l.signum() < 0 ? new Frac(u.negate(), l.negate()) : new Frac(u, l);
        }

        Frac plus(Frac o) {
            return of(up.multiply(o.low).add(o.up.multiply(low)), low.multiply(o.low));
        }

        Frac minus(Frac o) {
            return plus(new Frac(o.up.negate(), o.low));
        }

        Frac times(Frac o) {
            return of(up.multiply(o.up), low.multiply(o.low));
        }

        Frac by(Frac o) {
            return of(up.multiply(o.low), low.multiply(o.up));
        }

        Frac abs() {
            return new Frac(up.abs(), low);
        }

        int cmp(Frac o) {
            return up.multiply(o.low).compareTo(o.up.multiply(low));
        }

        boolean zero() {
            return up.signum() == 0;
        }

        Frac checked() throws TooGreat {
            if (up.compareTo(LIMIT) > 0 || low.compareTo(LIMIT) > 0) {
                throw new TooGreat();
            }
            return this;
        }
    }

    static final Frac ONE = Frac.of(1, 1);

    static final class Node {
        List<Integer> on = new ArrayList<>();
        int bits;
        int depth;
        int[] table;
        int cost = 1;
        int forced = NONE;
    }

    interface Event {
        boolean in(int way);
    }

    static final class Term {
        Frac number;
        Event event;
        Event given;
        List<Event> things = new ArrayList<>();
    }

    static final class Saying {
        char relation;
        Term[] terms = {new Term(), new Term()};
    }

    record Seen(int node, int state) {
    }

    static final class Kept {
        int[][] tables;
        int[] costs;
        int[] forced;
        List<Seen> seen;
    }

    record Land(int people, List<Integer> sheet) {
    }

    record Day(boolean on, boolean death, boolean looked) {
    }

    final List<Node> nodes = new ArrayList<>();
    List<Seen> seen = new ArrayList<>();
    List<BigInteger> row = new ArrayList<>();
    String text = "";
    final List<Saying> sayings = new ArrayList<>();
    final List<int[]> spans = new ArrayList<>();
    final List<int[]> heads = new ArrayList<>();
    final List<Land> lands = new ArrayList<>();
    final List<Day> days = new ArrayList<>();
    final Kept[] kept = new Kept[3];

    private boolean is(int node) {
        return node >= 0 && node < nodes.size();
    }

    private int ways() {
        return 1 << nodes.size();
    }

    private void tell(Frac... fracs) {
        row = new ArrayList<>();
        for (Frac f : fracs) {
            row.add(f.up());
            row.add(f.low());
        }
    }

    private long product() {
        long p = 1;
        for (Node n : nodes) {
            p *= n.depth;
        }
        return p;
    }

    // ---- the net

    int node(int leans, int depth) {
        if (nodes.size() == 10 || leans < 0 || leans >= ways() || Integer.bitCount(leans) > 3) {
            return NONE;
        }
        if (depth < 1 || depth > 10000000 || product() * depth > 100000000L) {
            return NONE;
        }
        Node n = new Node();
        n.bits = leans;
        n.depth = depth;
        for (int i = 0; i < nodes.size(); i++) {
            if ((leans & 1 << i) != 0) {
                n.on.add(i);
            }
        }
        n.table = new int[1 << n.on.size()];
        nodes.add(n);
        return nodes.size() - 1;
    }

    private boolean isCase(int node, int at) {
        return is(node) && at >= 0 && at < nodes.get(node).table.length;
    }

    int set(int node, int at, int v) {
        if (!isCase(node, at) || v < 0 || v > nodes.get(node).depth) {
            return NONE;
        }
        int old = nodes.get(node).table[at];
        nodes.get(node).table[at] = v;
        return old;
    }

    boolean force(int node, int state) {
        if (!is(node) || state < -1 || state > 1) {
            return false;
        }
        nodes.get(node).forced = state;
        return true;
    }

    private int place(int node) {
        for (int i = 0; i < seen.size(); i++) {
            if (seen.get(i).node() == node) {
                return i;
            }
        }
        return NONE;
    }

    boolean see(int node, int state) {
        if (!is(node) || state < -1 || state > 1) {
            return false;
        }
        int at = place(node);
        if (state == -1) {
            if (at >= 0) {
                seen.remove(at);
            }
        } else if (at >= 0) {
            seen.set(at, new Seen(node, state));
        } else {
            seen.add(new Seen(node, state));
        }
        return true;
    }

    private static boolean bit(int way, int node) {
        return (way >> node & 1) != 0;
    }

    private long w(int way) {
        long product = 1;
        for (int i = 0; i < nodes.size(); i++) {
            Node n = nodes.get(i);
            if (n.forced != NONE) {
                product *= bit(way, i) == (n.forced == 1) ? n.depth : 0;
                continue;
            }
            int at = 0;
            for (int k = 0; k < n.on.size(); k++) {
                if (bit(way, n.on.get(k))) {
                    at += 1 << k;
                }
            }
            product *= bit(way, i) ? n.table[at] : n.depth - n.table[at];
        }
        return product;
    }

    int weight(int way) {
        return way < 0 || way >= ways() ? NONE : (int) w(way);
    }

    private long sum(Event e) {
        long sum = 0;
        for (int way = 0; way < ways(); way++) {
            if (e.in(way)) {
                sum += w(way);
            }
        }
        return sum;
    }

    private static Event all(List<Seen> things) {
        return way -> {
            for (Seen s : things) {
                if (bit(way, s.node()) != (s.state() == 1)) {
                    return false;
                }
            }
            return true;
        };
    }

    private static Event node(int node) {
        return way -> bit(way, node);
    }

    private static Event not(Event e) {
        return way -> !e.in(way);
    }

    private static Event and(Event a, Event b) {
        return way -> a.in(way) && b.in(way);
    }

    /** Null, if what is given has no weight. */
    private Frac given(Event a, Event b) {
        long low = sum(b);
        return low == 0 ? null : Frac.of(sum(and(a, b)), low);
    }

    private List<Seen> without(int node) {
        List<Seen> rest = new ArrayList<>(seen);
        rest.removeIf(s -> s.node() == node);
        return rest;
    }

    // ---- chances

    int chance(int node) {
        if (!is(node)) {
            return NONE;
        }
        Frac c = given(node(node), all(seen));
        if (c == null) {
            return -2;
        }
        tell(c);
        return 0;
    }

    int odds(int node) {
        if (!is(node)) {
            return NONE;
        }
        Frac c = given(node(node), all(seen));
        if (c == null) {
            return -2;
        }
        if (c.equals(ONE)) {
            return 1;
        }
        tell(c.by(ONE.minus(c)));
        return 0;
    }

    int likely() {
        long now = sum(all(seen));
        if (now == 0) {
            return -2;
        }
        long best = -1;
        int at = NONE;
        for (int way = 0; way < ways(); way++) {
            if (all(seen).in(way) && w(way) > best) {
                best = w(way);
                at = way;
            }
        }
        tell(Frac.of(best, now));
        return at;
    }

    private Frac move(int claim, int thing) {
        return given(node(claim), all(seen)).minus(given(node(claim), all(without(thing))));
    }

    int moves(int claim, int thing) {
        if (!is(claim) || !is(thing) || place(thing) == NONE || claim == thing) {
            return NONE;
        }
        if (sum(all(seen)) == 0) {
            return -2;
        }
        Frac m = move(claim, thing);
        tell(m);
        return m.up().signum() > 0 ? 1 : m.zero() ? 0 : 2;
    }

    int most(int claim) {
        if (!is(claim)) {
            return NONE;
        }
        if (sum(all(seen)) == 0) {
            return -2;
        }
        int best = NONE;
        Frac far = null;
        for (Seen s : without(claim)) {
            Frac m = move(claim, s.node()).abs();
            if (far == null || m.cmp(far) > 0) {
                far = m;
                best = s.node();
            }
        }
        if (far != null) {
            tell(far);
        }
        return best;
    }

    private Frac mean(int claim, int node) {
        Frac now = given(node(claim), all(seen));
        Frac sum = Frac.of(0, 1);
        for (int state = 0; state < 2; state++) {
            Event e = state == 1 ? node(node) : not(node(node));
            Frac chance = given(e, all(seen));
            if (!chance.zero()) {
                sum = sum.plus(chance.times(given(node(claim), and(e, all(seen))).minus(now).abs()));
            }
        }
        return sum;
    }

    int worth(int claim, int node) {
        if (!is(claim) || !is(node) || place(node) != NONE || node == claim) {
            return NONE;
        }
        if (sum(all(seen)) == 0) {
            return -2;
        }
        tell(mean(claim, node));
        return 0;
    }

    int cost(int node, int v) {
        if (!is(node) || v < 1 || v > 99) {
            return NONE;
        }
        int old = nodes.get(node).cost;
        nodes.get(node).cost = v;
        return old;
    }

    int need(int claim) {
        if (!is(claim)) {
            return NONE;
        }
        int best = NONE;
        Frac far = null;
        for (int i = 0; i < nodes.size(); i++) {
            if (i == claim || place(i) != NONE || nodes.get(i).forced != NONE) {
                continue;
            }
            if (sum(all(seen)) == 0) {
                return -2;
            }
            Frac m = mean(claim, i).by(Frac.of(nodes.get(i).cost, 1));
            if (far == null || m.cmp(far) > 0) {
                far = m;
                best = i;
            }
        }
        if (far != null) {
            tell(far);
        }
        return best;
    }

    // ---- what hangs together

    private boolean on(int a, int b) {
        return nodes.get(a).forced == NONE && nodes.get(a).on.contains(b);
    }

    private boolean openBelow(int node, int given) {
        if (bit(given, node)) {
            return true;
        }
        for (int i = 0; i < nodes.size(); i++) {
            if (on(i, node) && openBelow(i, given)) {
                return true;
            }
        }
        return false;
    }

    private boolean goes(List<Integer> path, int b, int given) {
        int last = path.get(path.size() - 1);
        if (last == b) {
            return true;
        }
        for (int next = 0; next < nodes.size(); next++) {
            if (path.contains(next) || !on(last, next) && !on(next, last)) {
                continue;
            }
            if (path.size() > 1) {
                int ahead = path.get(path.size() - 2);
                boolean meets = on(last, ahead) && on(last, next);
                if (meets ? !openBelow(last, given) : bit(given, last)) {
                    continue;
                }
            }
            path.add(next);
            if (goes(path, b, given)) {
                return true;
            }
            path.remove(path.size() - 1);
        }
        return false;
    }

    private boolean pair(int a, int b, int given) {
        return is(a) && is(b) && a != b && given >= 0 && given < ways() && !bit(given, a) && !bit(given, b);
    }

    int apart(int a, int b, int given) {
        if (!pair(a, b, given)) {
            return NONE;
        }
        return goes(new ArrayList<>(List.of(a)), b, given) ? 0 : 1;
    }

    int even(int a, int b, int given) {
        if (!pair(a, b, given)) {
            return NONE;
        }
        for (int c = 0; c < ways(); c++) {
            if ((c & ~given) != 0) {
                continue;
            }
            int bits = c;
            Event now = way -> (way & given) == bits;
            Frac both = given(and(node(a), node(b)), now);
            if (both != null && !both.equals(given(node(a), now).times(given(node(b), now)))) {
                return 0;
            }
        }
        return 1;
    }

    int joined(int bits) {
        if (bits <= 0 || bits >= ways()) {
            return NONE;
        }
        if (sum(all(seen)) == 0) {
            return -2;
        }
        Frac alone = ONE;
        try {
            for (int i = 0; i < nodes.size(); i++) {
                if (bit(bits, i)) {
                    alone = alone.times(given(node(i), all(seen))).checked();
                }
            }
        } catch (TooGreat e) {
            return -9;
        }
        tell(alone, given(way -> (way & bits) == bits, all(seen)));
        return 0;
    }

    int bounds(int bits) {
        if (bits <= 0 || bits >= ways()) {
            return NONE;
        }
        if (sum(all(seen)) == 0) {
            return -2;
        }
        Frac sum = Frac.of(1 - Integer.bitCount(bits), 1);
        Frac least = ONE;
        for (int i = 0; i < nodes.size(); i++) {
            if (bit(bits, i)) {
                Frac c = given(node(i), all(seen));
                sum = sum.plus(c);
                least = c.cmp(least) < 0 ? c : least;
            }
        }
        tell(sum.up().signum() < 0 ? Frac.of(0, 1) : sum, least);
        return 0;
    }

    // ---- sayings

    int sign(int v) {
        if (text.length() + 4 > 60) {
            return NONE;
        }
        for (int i = 3; i >= 0; i--) {
            text += (char) (v >> 8 * i & 255);
        }
        return text.length();
    }

    boolean end(int n) {
        if (n < 0 || n > text.length()) {
            return false;
        }
        text = text.substring(0, n);
        return true;
    }

    /** All ends that the grammar allows, tried every way; and how far any try came. */
    private final class Grammar {
        final String t;
        int far = 0;

        Grammar(String t) {
            this.t = t;
        }

        TreeSet<Integer> set(int... at) {
            TreeSet<Integer> s = new TreeSet<>();
            for (int i : at) {
                s.add(i);
            }
            return s;
        }

        TreeSet<Integer> sign(TreeSet<Integer> from, String any) {
            TreeSet<Integer> to = new TreeSet<>();
            for (int p : from) {
                far = Math.max(far, p);
                if (p < t.length() && any.indexOf(t.charAt(p)) >= 0) {
                    to.add(p + 1);
                }
            }
            return to;
        }

        TreeSet<Integer> thing(TreeSet<Integer> from, int deep) {
            TreeSet<Integer> to = new TreeSet<>();
            if (from.isEmpty()) {
                return to;
            }
            to.addAll(sign(from, "abcdefghij".substring(0, nodes.size())));
            TreeSet<Integer> nots = sign(from, "!");
            if (!nots.isEmpty()) {
                to.addAll(thing(nots, deep));
            }
            TreeSet<Integer> open = deep < 5 ? sign(from, "(") : set();
            if (!open.isEmpty()) {
                to.addAll(sign(event(open, deep + 1), ")"));
            }
            return to;
        }

        TreeSet<Integer> event(TreeSet<Integer> from, int deep) {
            TreeSet<Integer> to = new TreeSet<>();
            TreeSet<Integer> now = thing(from, deep);
            while (!now.isEmpty()) {
                to.addAll(now);
                now = thing(sign(now, "&|"), deep);
            }
            return to;
        }

        TreeSet<Integer> perhapsGiven(TreeSet<Integer> from) {
            TreeSet<Integer> to = event(from, 0);
            to.addAll(event(sign(new TreeSet<>(to), "/"), 0));
            return to;
        }

        TreeSet<Integer> digits(TreeSet<Integer> from, String firsts) {
            TreeSet<Integer> to = new TreeSet<>();
            TreeSet<Integer> now = sign(from, firsts);
            for (int i = 1; i <= 8; i++) {
                to.addAll(now);
                now = i < 8 ? sign(now, "0123456789") : set();
            }
            return to;
        }

        TreeSet<Integer> term(TreeSet<Integer> from) {
            TreeSet<Integer> to = digits(sign(digits(from, "0123456789"), ":"), "123456789");
            to.addAll(perhapsGiven(from));
            return to;
        }

        TreeSet<Integer> saying() {
            TreeSet<Integer> to = term(sign(term(set(0)), "=<>"));
            to.addAll(perhapsGiven(sign(event(set(0), 0), "~")));
            for (int p : to) {
                far = Math.max(far, p);
            }
            return to;
        }
    }

    int say() {
        String t = text;
        text = "";
        if (sayings.size() == 12) {
            return -100;
        }
        String head = t.length() > 40 ? t.substring(0, 40) : t;
        Grammar g = new Grammar(head);
        TreeSet<Integer> ends = g.saying();
        if (!ends.contains(head.length())) {
            return -1 - g.far;
        }
        if (t.length() > 40) {
            return -41;
        }
        sayings.add(build(t));
        return sayings.size() - 1;
    }

    private Saying build(String t) {
        Saying s = new Saying();
        int at = 0;
        while ("=<>~".indexOf(t.charAt(at)) < 0) {
            at++;
        }
        s.relation = t.charAt(at);
        s.terms[0] = buildTerm(t.substring(0, at));
        s.terms[1] = buildTerm(t.substring(at + 1));
        return s;
    }

    private static Term buildTerm(String t) {
        Term term = new Term();
        int colon = t.indexOf(':');
        if (colon >= 0) {
            term.number = Frac.of(Long.parseLong(t.substring(0, colon)), Long.parseLong(t.substring(colon + 1)));
            return term;
        }
        int slash = t.indexOf('/');
        String head = slash < 0 ? t : t.substring(0, slash);
        term.event = buildEvent(head);
        term.given = slash < 0 ? null : buildEvent(t.substring(slash + 1));
        List<String> things = split(head, '&');
        if (split(head, '|').size() == 1 && things.size() > 1) {
            for (String one : things) {
                term.things.add(buildEvent(one));
            }
        }
        return term;
    }

    /** The pieces between signs that are outside of all brackets. */
    private static List<String> split(String t, char by) {
        List<String> pieces = new ArrayList<>();
        int deep = 0;
        int from = 0;
        for (int i = 0; i < t.length(); i++) {
            char c = t.charAt(i);
            deep += c == '(' ? 1 : c == ')' ? -1 : 0;
            if (c == by && deep == 0) {
                pieces.add(t.substring(from, i));
                from = i + 1;
            }
        }
        pieces.add(t.substring(from));
        return pieces;
    }

    private static Event buildEvent(String t) {
        List<String> ors = split(t, '|');
        if (ors.size() > 1) {
            List<Event> some = ors.stream().map(Oracle::buildEvent).toList();
            return way -> some.stream().anyMatch(e -> e.in(way));
        }
        List<String> ands = split(t, '&');
        if (ands.size() > 1) {
            List<Event> some = ands.stream().map(Oracle::buildEvent).toList();
            return way -> some.stream().allMatch(e -> e.in(way));
        }
        if (t.charAt(0) == '!') {
            return not(buildEvent(t.substring(1)));
        }
        if (t.charAt(0) == '(') {
            return buildEvent(t.substring(1, t.length() - 1));
        }
        return node(t.charAt(0) - 'a');
    }

    private static final Event ANY = way -> true;

    /** Null, if it is open. */
    private Frac value(Term t, int kind) throws TooGreat {
        if (t.number != null) {
            return t.number;
        }
        Event e = t.event;
        Event g = t.given;
        if (kind == 1 && g != null) {
            Event h = e;
            e = g;
            g = h;
        }
        if (kind == 2 || g == null) {
            g = ANY;
        }
        Frac c = given(e, g);
        if (c == null) {
            return null;
        }
        if (kind == 3 && !t.things.isEmpty()) {
            Frac product = ONE;
            for (Event one : t.things) {
                product = product.times(given(one, g)).checked();
            }
            return product;
        }
        return kind == 4 ? ONE.minus(c) : c;
    }

    private int judge(Saying s, int kind) {
        if (s.relation == '~') {
            Event g = s.terms[1].given == null ? ANY : s.terms[1].given;
            Frac both = given(and(s.terms[0].event, s.terms[1].event), g);
            if (both == null) {
                return -2;
            }
            return both.equals(given(s.terms[0].event, g).times(given(s.terms[1].event, g))) ? 1 : 0;
        }
        try {
            Frac a = value(s.terms[0], kind);
            if (a == null) {
                return -2;
            }
            Frac b = value(s.terms[1], kind);
            if (b == null) {
                return -2;
            }
            int by = a.cmp(b);
            return (s.relation == '=' ? by == 0 : s.relation == '<' ? by < 0 : by > 0) ? 1 : 0;
        } catch (TooGreat e) {
            return -9;
        }
    }

    int so(int saying) {
        return saying < 0 || saying >= sayings.size() ? NONE : judge(sayings.get(saying), 0);
    }

    int term(int saying, int side) {
        if (saying < 0 || saying >= sayings.size() || side < 0 || side > 1) {
            return NONE;
        }
        Saying s = sayings.get(saying);
        if (s.relation == '~') {
            return NONE;
        }
        try {
            Frac v = value(s.terms[side], 0);
            if (v == null) {
                return -2;
            }
            tell(v);
            return 0;
        } catch (TooGreat e) {
            return -9;
        }
    }

    int slip(int saying, int kind) {
        if (saying < 0 || saying >= sayings.size() || kind < 1 || kind > 4) {
            return NONE;
        }
        Saying s = sayings.get(saying);
        return s.relation == '~' ? NONE : judge(s, kind);
    }

    int which(int saying) {
        if (saying < 0 || saying >= sayings.size()) {
            return NONE;
        }
        Saying s = sayings.get(saying);
        int plain = judge(s, 0);
        if (plain != 0) {
            return plain == 1 ? 0 : plain;
        }
        for (int kind = 1; kind <= 4 && s.relation != '~'; kind++) {
            if (judge(s, kind) == 1) {
                return kind;
            }
        }
        return 5;
    }

    // ---- spans

    int span(int node, int at, int low, int high) {
        if (!isCase(node, at) || low < 0 || high > nodes.get(node).depth) {
            return NONE;
        }
        for (int i = 0; i < spans.size(); i++) {
            if (spans.get(i)[0] == node && spans.get(i)[1] == at) {
                if (low > high) {
                    spans.remove(i);
                } else {
                    spans.set(i, new int[] {node, at, low, high});
                }
                return spans.size();
            }
        }
        if (low > high || spans.size() == 6) {
            return NONE;
        }
        spans.add(new int[] {node, at, low, high});
        return spans.size();
    }

    private void ends(int node, List<int[]> some, int i, List<Frac> found) {
        if (i == some.size()) {
            Frac c = given(node(node), all(seen));
            if (c != null) {
                found.add(c);
            }
            return;
        }
        int[] s = some.get(i);
        int held = nodes.get(s[0]).table[s[1]];
        for (int end = 2; end < 4; end++) {
            nodes.get(s[0]).table[s[1]] = s[end];
            ends(node, some, i + 1, found);
        }
        nodes.get(s[0]).table[s[1]] = held;
    }

    int reach(int node, int what) {
        if (!is(node) || what < 0 || what > 1) {
            return NONE;
        }
        List<Frac> found = new ArrayList<>();
        ends(node, spans, 0, found);
        if (found.isEmpty()) {
            return -2;
        }
        found.sort(Frac::cmp);
        tell(found.get(what == 0 ? 0 : found.size() - 1));
        return 0;
    }

    int leans(int node) {
        if (!is(node)) {
            return NONE;
        }
        if (sum(all(seen)) == 0) {
            return -2;
        }
        int bits = 0;
        for (int i = 0; i < spans.size(); i++) {
            List<Frac> found = new ArrayList<>();
            ends(node, List.of(spans.get(i)), 0, found);
            if (found.size() == 2 && found.get(0).cmp(found.get(1)) != 0) {
                bits += 1 << i;
            }
        }
        return bits;
    }

    // ---- heads

    int head(int habits, int m) {
        if (habits < 0 || habits > 31 || m < 1 || m > 99 || heads.size() == 6) {
            return NONE;
        }
        heads.add(new int[] {habits, m});
        return heads.size() - 1;
    }

    /** Null for sure. */
    private Frac heardOdds(int habits, int m, int claim, List<Seen> things) throws TooGreat {
        Frac odds = ONE;
        if ((habits & 1) == 0) {
            Frac c = given(node(claim), ANY);
            if (c.equals(ONE)) {
                return null;
            }
            odds = c.by(ONE.minus(c));
        }
        List<Seen> heard = new ArrayList<>();
        for (int i = 0; i < things.size(); i++) {
            if ((habits & 16) != 0 && i >= m) {
                break;
            }
            Event thing = all(List.of(things.get(i)));
            Event ahead = (habits & 2) != 0 ? ANY : all(heard);
            Frac p = given(thing, and(node(claim), ahead));
            Frac q = given(thing, and(not(node(claim)), ahead));
            if (p == null || q == null) {
                continue;
            }
            if ((habits & 8) != 0 && q.cmp(Frac.of(1, 1000L * m)) < 0) {
                q = Frac.of(0, 1);
            }
            Frac above = (habits & 4) != 0 ? ONE.minus(q) : odds.times(p).checked();
            if (q.zero()) {
                if (above.zero()) {
                    continue;
                }
                return null;
            }
            odds = above.by(q).checked();
            heard = new ArrayList<>(heard);
            heard.add(things.get(i));
        }
        return odds;
    }

    private boolean badHead(int head, int claim) {
        return head < 0 || head >= heads.size() || !is(claim);
    }

    int hear(int head, int claim) {
        if (badHead(head, claim)) {
            return NONE;
        }
        try {
            Frac odds = heardOdds(heads.get(head)[0], heads.get(head)[1], claim, without(claim));
            if (odds == null) {
                return 1;
            }
            tell(odds);
            return 0;
        } catch (TooGreat e) {
            return -9;
        }
    }

    int errs(int head, int claim) {
        if (badHead(head, claim)) {
            return NONE;
        }
        Frac right = given(node(claim), all(without(claim)));
        if (right == null) {
            return -2;
        }
        try {
            Frac odds = heardOdds(heads.get(head)[0], heads.get(head)[1], claim, without(claim));
            boolean sure = right.equals(ONE);
            if (odds == null) {
                return sure ? 0 : 1;
            }
            if (sure) {
                return 2;
            }
            int by = odds.cmp(right.by(ONE.minus(right)));
            return by == 0 ? 0 : by > 0 ? 1 : 2;
        } catch (TooGreat e) {
            return -9;
        }
    }

    private static void permute(List<Seen> left, List<Seen> made, List<List<Seen>> out) {
        if (left.isEmpty()) {
            out.add(new ArrayList<>(made));
        }
        for (int i = 0; i < left.size(); i++) {
            List<Seen> rest = new ArrayList<>(left);
            made.add(rest.remove(i));
            permute(rest, made, out);
            made.remove(made.size() - 1);
        }
    }

    int order(int head, int claim) {
        if (badHead(head, claim)) {
            return NONE;
        }
        List<Seen> things = without(claim);
        if (things.size() > 5) {
            return NONE;
        }
        things.sort((a, b) -> a.node() - b.node());
        List<List<Seen>> orders = new ArrayList<>();
        permute(things, new ArrayList<>(), orders);
        List<Seen> best = null;
        Frac most = null;
        for (List<Seen> one : orders) {
            try {
                Frac odds = heardOdds(heads.get(head)[0], heads.get(head)[1], claim, one);
                boolean better = best == null || most != null && (odds == null || odds.cmp(most) > 0);
                if (better) {
                    best = one;
                    most = odds;
                }
            } catch (TooGreat e) {
                continue;
            }
        }
        if (best == null) {
            return -2;
        }
        row = new ArrayList<>();
        for (Seen s : best) {
            row.add(BigInteger.valueOf(s.node()));
        }
        return 0;
    }

    // ---- found on a list, tests done again

    private static boolean rate(int a, int b) {
        return a >= 1 && b >= 1 && a <= 1000000 && b <= 1000000 && a <= b;
    }

    int list(int people, int n, int a, int b) {
        if (n < 1 || n > 1000000 || !rate(a, b) || people < n || people > 100000000) {
            return NONE;
        }
        tell(ONE.by(ONE.plus(Frac.of(people - n, 1).times(Frac.of(a, b)))));
        return 0;
    }

    int many(int a, int b) {
        if (!rate(a, b)) {
            return NONE;
        }
        long parts = 1000000000;
        int n = 0;
        while (parts * 2 > 1000000000) {
            parts = parts * (b - a) / b;
            n++;
            if (n > 100000) {
                return -2;
            }
        }
        return n;
    }

    int test(int node, int n, int make) {
        if (!is(node) || nodes.get(node).on.size() != 1 || n < 1 || n > 6 || make < 0 || make > 1) {
            return NONE;
        }
        int claim = nodes.get(node).on.get(0);
        for (int one : new int[] {node, claim}) {
            if (place(one) != NONE || nodes.get(one).forced != NONE) {
                return NONE;
            }
        }
        Frac c = given(node(claim), all(seen));
        if (c == null) {
            return -2;
        }
        int with = nodes.get(node).table[1];
        int bare = nodes.get(node).table[0];
        boolean out = c.zero() || with == 0;
        boolean otherOut = c.equals(ONE) || bare == 0;
        if (out && otherOut) {
            return -2;
        }
        if (out || otherOut) {
            tell(Frac.of(out ? 0 : 1, 1));
            return 0;
        }
        try {
            Frac odds = c.by(ONE.minus(c));
            for (int i = 0; i < (make == 1 ? 1 : n); i++) {
                odds = odds.times(Frac.of(with, bare)).checked();
            }
            tell(odds.by(odds.plus(ONE)).checked());
            return 0;
        } catch (TooGreat e) {
            return -9;
        }
    }

    // ---- lands, shifts

    int land(int people, int kind, int n, int f, int step) {
        if (people < 1 || people > 1000000 || kind < 0 || kind > 3 || n > 6 || lands.size() == 8) {
            return NONE;
        }
        if (kind < 3 && n < 0) {
            return -2;
        }
        List<Integer> sheet = new ArrayList<>();
        int entry = f;
        for (int i = 0; i < n && kind < 3; i++) {
            int cut = kind == 0 ? (byte) entry : kind == 1 ? (short) entry : entry;
            if (cut < 0 || cut > people) {
                return NONE;
            }
            sheet.add(cut);
            entry += step;
        }
        lands.add(new Land(people, sheet));
        return lands.size() - 1;
    }

    int mark(int land, int mark) {
        if (land < 0 || land >= lands.size() || mark < 0 || mark > 5) {
            return NONE;
        }
        Land l = lands.get(land);
        if (mark >= l.sheet().size()) {
            return -2;
        }
        tell(Frac.of(l.sheet().get(mark), l.people()));
        return 0;
    }

    int rare(int mark, int what) {
        if (mark < 0 || mark > 5 || what < 0 || what > 1) {
            return NONE;
        }
        int best = -2;
        Frac most = null;
        for (int i = 0; i < lands.size(); i++) {
            Land l = lands.get(i);
            if (mark >= l.sheet().size()) {
                continue;
            }
            Frac c = Frac.of(l.sheet().get(mark), l.people());
            if (most == null || (what == 1 ? c.cmp(most) > 0 : c.cmp(most) < 0)) {
                best = i;
                most = c;
            }
        }
        return best;
    }

    int day(boolean on, boolean death, boolean looked) {
        if (days.size() == 30 || looked && !death) {
            return NONE;
        }
        days.add(new Day(on, death, looked));
        return days.size();
    }

    /** How many ways deaths fall on days, by how many of them are on days on: day by day. */
    private Frac lot(int deaths, int least) {
        long[][] ways = new long[32][32];
        ways[0][0] = 1;
        for (Day d : days) {
            for (int all = 30; all >= 0; all--) {
                for (int on = 30; on >= 0; on--) {
                    ways[all + 1][on + (d.on() ? 1 : 0)] += ways[all][on];
                }
            }
        }
        long good = 0;
        long sum = 0;
        for (int on = 0; on <= 31; on++) {
            sum += ways[deaths][on];
            good += on >= least ? ways[deaths][on] : 0;
        }
        return Frac.of(good, sum);
    }

    int shifts(int what) {
        if (days.isEmpty() || what < 0 || what > 1) {
            return NONE;
        }
        int deaths = 0;
        int on = 0;
        for (Day d : days) {
            if (what == 0 ? d.death() : d.looked()) {
                deaths++;
                on += d.on() ? 1 : 0;
            }
        }
        tell(lot(deaths, on));
        row.add(BigInteger.valueOf(on));
        return 0;
    }

    int enough(int b) {
        if (days.isEmpty() || b < 1 || b > 1000000) {
            return NONE;
        }
        int deaths = 0;
        int on = 0;
        List<Boolean> more = new ArrayList<>();
        for (Day d : days) {
            if (d.looked()) {
                deaths++;
                on += d.on() ? 1 : 0;
            } else if (d.death()) {
                more.add(d.on());
            }
        }
        more.sort(Boolean::compare);
        for (int i = 0; i <= more.size(); i++) {
            if (lot(deaths, on).cmp(Frac.of(1, b)) >= 0) {
                return i;
            }
            if (i < more.size()) {
                deaths++;
                on += more.get(i) ? 1 : 0;
            }
        }
        return -2;
    }

    // ---- kept

    boolean keep(int i) {
        if (i < 0 || i > 2) {
            return false;
        }
        Kept k = new Kept();
        k.tables = nodes.stream().map(n -> n.table.clone()).toArray(int[][]::new);
        k.costs = nodes.stream().mapToInt(n -> n.cost).toArray();
        k.forced = nodes.stream().mapToInt(n -> n.forced).toArray();
        k.seen = new ArrayList<>(seen);
        kept[i] = k;
        return true;
    }

    boolean again(int i) {
        if (i < 0 || i > 2 || kept[i] == null) {
            return false;
        }
        Kept k = kept[i];
        seen = new ArrayList<>(k.seen);
        for (int j = 0; j < nodes.size(); j++) {
            Node n = nodes.get(j);
            n.forced = j < k.forced.length ? k.forced[j] : NONE;
            if (j < k.costs.length) {
                n.cost = k.costs[j];
                n.table = Arrays.copyOf(k.tables[j], k.tables[j].length);
            }
        }
        return true;
    }

    int count(int what) {
        int forced = 0;
        for (int i = 0; i < nodes.size(); i++) {
            forced += nodes.get(i).forced != NONE ? 1 << i : 0;
        }
        int[] counts = {nodes.size(), seen.size(), sayings.size(), spans.size(), heads.size(), lands.size(),
            days.size(), row.size(), text.length(), (int) product(), forced};
        return what < 0 || what >= counts.length ? NONE : counts[what];
    }

    /** Long.MIN_VALUE where the class throws. */
    long of(int node, int what) {
        if (!is(node) || what < 0 || what >= 5 + nodes.get(node).table.length) {
            return Long.MIN_VALUE;
        }
        Node n = nodes.get(node);
        int at = place(node);
        return switch (what) {
            case 0 -> n.bits;
            case 1 -> n.depth;
            case 2 -> at == NONE ? NONE : seen.get(at).state();
            case 3 -> at;
            case 4 -> n.cost;
            default -> n.table[what - 5];
        };
    }

    long row(int i) {
        return i < 0 || i >= row.size() ? Long.MIN_VALUE : row.get(i).longValueExact();
    }
}
