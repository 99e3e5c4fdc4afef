import java.util.NoSuchElementException;

/**
 * What an expert said, weighed exactly: a net of nodes that lean on one another by told chances,
 * sayings about it, heads that hear by habits, and some plain sums that courts got wrong.
 *
 * Everything that a call needs is made in the constructor and used again: no call makes an object.
 */
public final class OddsInCourt {
    public static final int NONE = -1;

    private static final int NO_WEIGHT = -2;
    private static final int TOO_GREAT = -9;
    private static final int SURE = 1;
    private static final int FULL = -100;

    private static final int MOST_SAYINGS = 12;
    private static final int MOST_HEADS = 6;
    private static final int MOST_KEPT = 3;
    private static final int MOST_ORDERED = 5;
    private static final int ORDERS = 120;

    private final Net net;
    private final Row numbers;
    private final Text text;
    private final Saying[] sayings;
    private final Sets sets;
    private final Spans spans;
    private final Hearing hearing;
    private final Lands lands;
    private final Shifts roster;
    private final Kept[] kept;
    private final int[] habits;
    private final int[] measures;
    private final int[] bestOrder;
    private final Fraction first;
    private final Fraction second;
    private int said;
    private int heads;

    public OddsInCourt() {
        net = new Net();
        numbers = new Row();
        text = new Text();
        sayings = new Saying[MOST_SAYINGS];
        for (int i = 0; i < MOST_SAYINGS; i++) {
            sayings[i] = new Saying();
        }
        sets = new Sets();
        spans = new Spans();
        hearing = new Hearing();
        lands = new Lands();
        roster = new Shifts();
        kept = new Kept[MOST_KEPT];
        for (int i = 0; i < MOST_KEPT; i++) {
            kept[i] = new Kept();
        }
        habits = new int[MOST_HEADS];
        measures = new int[MOST_HEADS];
        bestOrder = new int[MOST_ORDERED];
        first = new Fraction();
        second = new Fraction();
        said = 0;
        heads = 0;
    }

    // ---- the net

    public int node(int leans, int depth) {
        if (!net.canTake(leans, depth)) {
            return NONE;
        }
        return net.take(leans, depth);
    }

    public int set(int node, int at, int v) {
        if (!net.hasCase(node, at) || v < 0 || v > net.depth[node]) {
            return NONE;
        }
        return net.exchange(node, at, v);
    }

    public boolean force(int node, int state) {
        if (!net.has(node) || !isState(state)) {
            return false;
        }
        net.forceTo(node, state);
        return true;
    }

    public boolean see(int node, int state) {
        if (!net.has(node) || !isState(state)) {
            return false;
        }
        if (state == NONE) {
            net.unsee(node);
        } else {
            net.seeAs(node, state);
        }
        return true;
    }

    public int weight(int way) {
        net.refresh();
        return net.weightOf(way);
    }

    // ---- chances

    public int chance(int node) {
        if (!net.has(node)) {
            return NONE;
        }
        net.refresh();
        if (!net.putChance(node, first)) {
            return NO_WEIGHT;
        }
        numbers.tell(first);
        return 0;
    }

    public int odds(int node) {
        if (!net.has(node)) {
            return NONE;
        }
        net.refresh();
        int so = net.weighNowWith(node, 1);
        int not = net.weighNowWith(node, 0);
        if (not == 0) {
            return so == 0 ? NO_WEIGHT : SURE;
        }
        first.put(so, not);
        numbers.tell(first);
        return 0;
    }

    public int likely() {
        net.refresh();
        int now = net.weighNow();
        if (now == 0) {
            return NO_WEIGHT;
        }
        int way = net.heaviestNow();
        first.put(net.weightOf(way), now);
        numbers.tell(first);
        return way;
    }

    public int moves(int claim, int seen) {
        if (!net.has(claim) || !net.isSeen(seen) || claim == seen) {
            return NONE;
        }
        net.refresh();
        if (net.weighNow() == 0) {
            return NO_WEIGHT;
        }
        net.putMove(claim, seen, first);
        numbers.tell(first);
        return first.up > 0 ? 1 : first.up < 0 ? 2 : 0;
    }

    public int most(int claim) {
        if (!net.has(claim)) {
            return NONE;
        }
        net.refresh();
        if (net.weighNow() == 0) {
            return NO_WEIGHT;
        }
        int best = NONE;
        for (int i = 0; i < net.things; i++) {
            int thing = net.line[i];
            if (thing == claim) {
                continue;
            }
            net.putMove(claim, thing, first);
            first.put(Math.abs(first.up), first.low);
            if (best == NONE || first.compare(second) > 0) {
                best = thing;
                second.put(first.up, first.low);
            }
        }
        if (best != NONE) {
            numbers.tell(second);
        }
        return best;
    }

    public int worth(int claim, int node) {
        if (!net.has(claim) || !net.has(node) || net.isSeen(node) || node == claim) {
            return NONE;
        }
        net.refresh();
        if (net.weighNow() == 0) {
            return NO_WEIGHT;
        }
        net.putWorth(claim, node, 1, first);
        numbers.tell(first);
        return 0;
    }

    public int cost(int node, int v) {
        if (!net.has(node) || v < 1 || v > 99) {
            return NONE;
        }
        int old = net.price[node];
        net.price[node] = v;
        return old;
    }

    public int need(int claim) {
        if (!net.has(claim) || !net.canLookBeside(claim)) {
            return NONE;
        }
        net.refresh();
        if (net.weighNow() == 0) {
            return NO_WEIGHT;
        }
        int best = NONE;
        for (int node = 0; node < net.nodes; node++) {
            if (node == claim || !net.canLookAt(node)) {
                continue;
            }
            net.putWorth(claim, node, net.price[node], first);
            if (best == NONE || first.compare(second) > 0) {
                best = node;
                second.put(first.up, first.low);
            }
        }
        numbers.tell(second);
        return best;
    }

    // ---- what hangs together

    public int apart(int a, int b, int given) {
        if (!net.isPairBeside(a, b, given)) {
            return NONE;
        }
        return net.connects(a, b, given) ? 0 : 1;
    }

    public int even(int a, int b, int given) {
        if (!net.isPairBeside(a, b, given)) {
            return NONE;
        }
        net.refresh();
        int spread = given;
        int cases = 1 << Integer.bitCount(given);
        for (int i = 0; i < cases; i++) {
            // walks down all sub-masks of given, and round from 0 to given again
            spread = (spread - 1) & given;
            if (!net.isEvenIn(a, b, given, spread)) {
                return 0;
            }
        }
        return 1;
    }

    public int joined(int nodes) {
        if (nodes == 0 || !net.hasAll(nodes)) {
            return NONE;
        }
        net.refresh();
        int now = net.weighNow();
        if (now == 0) {
            return NO_WEIGHT;
        }
        first.put(1, 1);
        for (int node = 0; node < net.nodes; node++) {
            if ((nodes >> node & 1) == 0) {
                continue;
            }
            second.put(net.weighNowWith(node, 1), now);
            if (!first.times(second.up, second.low)) {
                return TOO_GREAT;
            }
        }
        second.put(net.weighNowAllSo(nodes), now);
        numbers.tell(first);
        numbers.tellToo(second);
        return 0;
    }

    public int bounds(int nodes) {
        if (nodes == 0 || !net.hasAll(nodes)) {
            return NONE;
        }
        net.refresh();
        int now = net.weighNow();
        if (now == 0) {
            return NO_WEIGHT;
        }
        long spare = now;
        int least = now;
        for (int node = 0; node < net.nodes; node++) {
            if ((nodes >> node & 1) != 0) {
                int so = net.weighNowWith(node, 1);
                spare -= now - so;
                least = Math.min(least, so);
            }
        }
        first.put(Math.max(spare, 0), now);
        second.put(least, now);
        numbers.tell(first);
        numbers.tellToo(second);
        return 0;
    }

    // ---- sayings

    public int sign(int v) {
        if (text.length + 4 > Text.MOST) {
            return NONE;
        }
        text.append(v);
        return text.length;
    }

    public boolean end(int n) {
        if (n < 0 || n > text.length) {
            return false;
        }
        text.length = n;
        return true;
    }

    public int say() {
        int length = text.length;
        text.length = 0;
        if (said >= MOST_SAYINGS) {
            return FULL;
        }
        int wrong = text.parse(length, net.nodes, sayings[said]);
        if (wrong != NONE) {
            return -1 - wrong;
        }
        said++;
        return said - 1;
    }

    public int so(int saying) {
        if (saying < 0 || saying >= said) {
            return NONE;
        }
        return judge(sayings[saying], Sets.AS_SAID);
    }

    public int term(int saying, int side) {
        if (saying < 0 || saying >= said || side < 0 || side > 1 || sayings[saying].isBeside()) {
            return NONE;
        }
        net.refresh();
        int answer = sets.findTerm(net, sayings[saying], side, Sets.AS_SAID, first);
        if (answer == 0) {
            numbers.tell(first);
        }
        return answer;
    }

    public int slip(int saying, int kind) {
        if (saying < 0 || saying >= said || sayings[saying].isBeside()) {
            return NONE;
        }
        if (kind < Sets.TURNED || kind > Sets.OTHER) {
            return NONE;
        }
        return judge(sayings[saying], kind);
    }

    public int which(int saying) {
        if (saying < 0 || saying >= said) {
            return NONE;
        }
        Saying one = sayings[saying];
        int plain = judge(one, Sets.AS_SAID);
        if (plain != 0) {
            return plain == 1 ? 0 : plain;
        }
        if (one.isBeside()) {
            return Sets.OTHER + 1;
        }
        for (int kind = Sets.TURNED; kind <= Sets.OTHER; kind++) {
            if (judge(one, kind) == 1) {
                return kind;
            }
        }
        return Sets.OTHER + 1;
    }

    private int judge(Saying saying, int kind) {
        net.refresh();
        if (saying.isBeside()) {
            return sets.findBeside(net, saying);
        }
        int answer = sets.findTerm(net, saying, 0, kind, first);
        if (answer == 0) {
            answer = sets.findTerm(net, saying, 1, kind, second);
        }
        if (answer != 0) {
            return answer;
        }
        return saying.holds(first.compare(second)) ? 1 : 0;
    }

    // ---- spans

    public int span(int node, int at, int low, int high) {
        if (!net.hasCase(node, at) || low < 0 || high > net.depth[node]) {
            return NONE;
        }
        int place = spans.find(node, at);
        if (low > high) {
            return place == NONE ? NONE : spans.drop(place);
        }
        if (place == NONE && spans.told >= Spans.MOST) {
            return NONE;
        }
        return spans.enter(place == NONE ? spans.told : place, node, at, low, high);
    }

    public int reach(int node, int what) {
        if (!net.has(node) || what < 0 || what > 1) {
            return NONE;
        }
        if (!spans.findReach(net, node, what == 1, first, second)) {
            return NO_WEIGHT;
        }
        numbers.tell(first);
        return 0;
    }

    public int leans(int node) {
        if (!net.has(node)) {
            return NONE;
        }
        net.refresh();
        if (net.weighNow() == 0) {
            return NO_WEIGHT;
        }
        int parting = 0;
        for (int i = 0; i < spans.told; i++) {
            if (spans.parts(net, node, i, first, second)) {
                parting |= 1 << i;
            }
        }
        return parting;
    }

    // ---- heads

    public int head(int habits, int m) {
        if (habits < 0 || habits > Hearing.ALL_HABITS || m < 1 || m > 99 || heads >= MOST_HEADS) {
            return NONE;
        }
        this.habits[heads] = habits;
        measures[heads] = m;
        heads++;
        return heads - 1;
    }

    public int hear(int head, int claim) {
        if (!hasHead(head) || !net.has(claim)) {
            return NONE;
        }
        hearing.prepare(net, claim);
        int answer = hearing.listen(habits[head], measures[head]);
        if (answer == 0) {
            numbers.tell(hearing.odds);
        }
        return answer;
    }

    public int errs(int head, int claim) {
        if (!hasHead(head) || !net.has(claim)) {
            return NONE;
        }
        hearing.prepare(net, claim);
        int so = hearing.weighAll(true);
        int not = hearing.weighAll(false);
        if (so == 0 && not == 0) {
            return NO_WEIGHT;
        }
        int answer = hearing.listen(habits[head], measures[head]);
        if (answer == TOO_GREAT) {
            return TOO_GREAT;
        }
        if (answer == SURE || not == 0) {
            return answer != SURE ? 2 : not == 0 ? 0 : 1;
        }
        first.put(so, not);
        int by = hearing.odds.compare(first);
        return by > 0 ? 1 : by < 0 ? 2 : 0;
    }

    public int order(int head, int claim) {
        if (!hasHead(head) || !net.has(claim)) {
            return NONE;
        }
        hearing.prepare(net, claim);
        if (hearing.things > MOST_ORDERED) {
            return NONE;
        }
        hearing.sortThings();
        boolean found = false;
        boolean bestSure = false;
        for (int i = 0; i < ORDERS && !bestSure; i++) {
            int answer = hearing.listen(habits[head], measures[head]);
            boolean better = answer == SURE || answer == 0 && (!found || hearing.odds.compare(first) > 0);
            if (better) {
                found = true;
                bestSure = answer == SURE;
                first.put(hearing.odds.up, hearing.odds.low);
                System.arraycopy(hearing.line, 0, bestOrder, 0, hearing.things);
            }
            if (!hearing.nextOrder()) {
                break;
            }
        }
        if (!found) {
            return NO_WEIGHT;
        }
        numbers.clear();
        for (int i = 0; i < hearing.things; i++) {
            numbers.add(bestOrder[i]);
        }
        return 0;
    }

    // ---- found on a list, tests done again

    public int list(int people, int n, int a, int b) {
        if (!isRate(a, b) || n < 1 || n > 1000000 || people < n || people > 100000000) {
            return NONE;
        }
        first.put(b, b + (long) (people - n) * a);
        numbers.tell(first);
        return 0;
    }

    public int many(int a, int b) {
        if (!isRate(a, b)) {
            return NONE;
        }
        long nobody = 1000000000L;
        for (int looked = 0; looked <= 100000; looked++) {
            if (nobody <= 500000000L) {
                return looked;
            }
            nobody = nobody * (b - a) / b;
        }
        return NO_WEIGHT;
    }

    public int test(int node, int n, int make) {
        if (!net.has(node) || n < 1 || n > 6 || make < 0 || make > 1) {
            return NONE;
        }
        int claim = net.onlyLean(node);
        if (claim == NONE || !net.canLookAt(node) || !net.canLookAt(claim)) {
            return NONE;
        }
        net.refresh();
        int so = net.weighNowWith(claim, 1);
        int not = net.weighNowWith(claim, 0);
        long with = net.numberAt(node, 1);
        long without = net.numberAt(node, 0);
        boolean claimOut = so == 0 || with == 0;
        boolean otherOut = not == 0 || without == 0;
        if (claimOut && otherOut) {
            return NO_WEIGHT;
        }
        if (claimOut || otherOut) {
            first.put(claimOut ? 0 : 1, 1);
            numbers.tell(first);
            return 0;
        }
        first.put(so, not);
        second.put(with, without);
        return testAgain(make == 1 ? 1 : n);
    }

    private int testAgain(int times) {
        for (int i = 0; i < times; i++) {
            if (!first.times(second.up, second.low)) {
                return TOO_GREAT;
            }
        }
        if (first.up + first.low > Fraction.GREATEST) {
            return TOO_GREAT;
        }
        first.put(first.up, first.up + first.low);
        numbers.tell(first);
        return 0;
    }

    // ---- lands, shifts

    public int land(int people, int kind, int n, int f, int step) {
        if (people < 1 || people > 1000000 || kind < 0 || kind > 3 || n > Lands.MARKS) {
            return NONE;
        }
        if (lands.told >= Lands.MOST) {
            return NONE;
        }
        if (kind == Lands.MISSING) {
            return lands.close(people, 0);
        }
        if (n < 0) {
            return NO_WEIGHT;
        }
        for (int i = 0; i < n; i++) {
            int entry = Lands.cut(kind, f + i * step);
            if (entry < 0 || entry > people) {
                return NONE;
            }
            lands.write(i, entry);
        }
        return lands.close(people, n);
    }

    public int mark(int land, int mark) {
        if (!lands.has(land) || mark < 0 || mark >= Lands.MARKS) {
            return NONE;
        }
        if (!lands.putMark(land, mark, first)) {
            return NO_WEIGHT;
        }
        numbers.tell(first);
        return 0;
    }

    public int rare(int mark, int what) {
        if (mark < 0 || mark >= Lands.MARKS || what < 0 || what > 1) {
            return NONE;
        }
        int best = NO_WEIGHT;
        for (int land = 0; land < lands.told; land++) {
            if (!lands.putMark(land, mark, first)) {
                continue;
            }
            int by = best == NO_WEIGHT ? 1 : first.compare(second) * (what == 1 ? 1 : -1);
            if (by > 0) {
                best = land;
                second.put(first.up, first.low);
            }
        }
        return best;
    }

    public int day(boolean on, boolean death, boolean looked) {
        if (roster.days >= Shifts.MOST || looked && !death) {
            return NONE;
        }
        return roster.enter(on, death, looked);
    }

    public int shifts(int what) {
        if (roster.days == 0 || what < 0 || what > 1) {
            return NONE;
        }
        int on = what == 0 ? roster.deathsOn : roster.lookedOn;
        int off = what == 0 ? roster.deathsOff : roster.lookedOff;
        first.put(roster.lots(on, on + off), Shifts.choices(roster.days, on + off));
        numbers.tell(first);
        numbers.add(on);
        return 0;
    }

    public int enough(int b) {
        if (roster.days == 0 || b < 1 || b > 1000000) {
            return NONE;
        }
        int freeOff = roster.deathsOff - roster.lookedOff;
        int freeOn = roster.deathsOn - roster.lookedOn;
        for (int more = 0; more <= freeOff + freeOn; more++) {
            int on = roster.lookedOn + Math.max(0, more - freeOff);
            int deaths = roster.lookedOn + roster.lookedOff + more;
            if (roster.lots(on, deaths) * b >= Shifts.choices(roster.days, deaths)) {
                return more;
            }
        }
        return NO_WEIGHT;
    }

    // ---- kept

    public boolean keep(int i) {
        if (i < 0 || i >= MOST_KEPT) {
            return false;
        }
        kept[i].copyFrom(net);
        return true;
    }

    public boolean again(int i) {
        if (i < 0 || i >= MOST_KEPT || !kept[i].there) {
            return false;
        }
        kept[i].copyTo(net);
        return true;
    }

    public int count(int what) {
        switch (what) {
            case 0: return net.nodes;
            case 1: return net.things;
            case 2: return said;
            case 3: return spans.told;
            case 4: return heads;
            case 5: return lands.told;
            case 6: return roster.days;
            case 7: return numbers.count;
            case 8: return text.length;
            case 9: return net.depths;
            case 10: return net.forced;
            default: return NONE;
        }
    }

    public int of(int node, int what) throws NoSuchElementException {
        if (!net.has(node) || what < 0 || what >= 5 && !net.hasCase(node, what - 5)) {
            throw new NoSuchElementException("no such node or number");
        }
        switch (what) {
            case 0: return net.leaning[node];
            case 1: return net.depth[node];
            case 2: return net.isSeen(node) ? net.seenSo >> node & 1 : NONE;
            case 3: return net.placeOf(node);
            case 4: return net.price[node];
            default: return net.numberAt(node, what - 5);
        }
    }

    public long row(int i) throws NoSuchElementException {
        if (i < 0 || i >= numbers.count) {
            throw new NoSuchElementException("no such number of the row");
        }
        return numbers.values[i];
    }

    private boolean hasHead(int head) {
        return head >= 0 && head < heads;
    }

    private static boolean isState(int state) {
        return state >= NONE && state <= 1;
    }

    private static boolean isRate(int a, int b) {
        return a >= 1 && a <= b && b <= 1000000;
    }

    /** A fraction in lowest terms, its lower number above 0. */
    private static final class Fraction {
        static final long GREATEST = 1000000000000000000L;
        // Euclid's rows on longs end after some 92 steps
        private static final int STEPS = 200;

        long up;
        long low;

        Fraction() {
            up = 0;
            low = 1;
        }

        void put(long upper, long lower) {
            long common = commonDivisor(Math.abs(upper), lower);
            up = common > 1 ? upper / common : upper;
            low = common > 1 ? lower / common : lower;
        }

        /** Times upper by lower, a fraction in lowest terms; false, if it is too great. */
        boolean times(long upper, long lower) {
            long across = commonDivisor(up, lower);
            long back = commonDivisor(upper, low);
            if (across < 1 || back < 1) {
                return false;
            }
            if (isTooGreat(up / across, upper / back) || isTooGreat(low / back, lower / across)) {
                return false;
            }
            up = up / across * (upper / back);
            low = low / back * (lower / across);
            return true;
        }

        /** As the continued fractions go, so that no product can run over; neither is below 0. */
        int compare(Fraction other) {
            long a = up;
            long b = low;
            long c = other.up;
            long d = other.low;
            int turn = 1;
            for (int i = 0; i < STEPS && b > 0 && d > 0; i++) {
                if (a / b != c / d) {
                    return a / b > c / d ? turn : -turn;
                }
                long restA = a % b;
                long restC = c % d;
                if (restA == 0 || restC == 0) {
                    return restA == restC ? 0 : restC == 0 ? turn : -turn;
                }
                a = b;
                b = restA;
                c = d;
                d = restC;
                turn = -turn;
            }
            return 0;
        }

        private static boolean isTooGreat(long a, long b) {
            return b > 0 && a > GREATEST / b;
        }

        private static long commonDivisor(long a, long b) {
            long greater = a;
            long less = b;
            for (int i = 0; i < STEPS && less != 0; i++) {
                long rest = greater % less;
                greater = less;
                less = rest;
            }
            return greater;
        }
    }

    /** The numbers told last. */
    private static final class Row {
        private static final int MOST = 8;

        final long[] values;
        int count;

        Row() {
            values = new long[MOST];
            count = 0;
        }

        void clear() {
            count = 0;
        }

        void add(long number) {
            if (count < MOST) {
                values[count] = number;
                count++;
            }
        }

        void tell(Fraction fraction) {
            clear();
            tellToo(fraction);
        }

        void tellToo(Fraction fraction) {
            add(fraction.up);
            add(fraction.low);
        }
    }

    /** The nodes, what is forced and seen, and the weights of all ways. */
    private static final class Net {
        static final int MOST = 10;
        static final int CASES = 8;
        static final int WAYS = 1 << MOST;
        private static final int LEANS = 3;
        private static final int DEEPEST = 10000000;
        private static final int ALL_DEPTHS = 100000000;

        int nodes;
        int depths;
        final int[] leaning;
        private final int[] leanCount;
        private final int[] leanedOn;
        final int[] depth;
        final int[] table;
        final int[] price;
        int forced;
        int forcedSo;
        int seen;
        int seenSo;
        int things;
        final int[] line;
        final int[] weights;
        private boolean fresh;

        Net() {
            nodes = 0;
            depths = 1;
            leaning = new int[MOST];
            leanCount = new int[MOST];
            leanedOn = new int[MOST * LEANS];
            depth = new int[MOST];
            table = new int[MOST * CASES];
            price = new int[MOST];
            line = new int[MOST];
            weights = new int[WAYS];
            fresh = false;
        }

        boolean has(int node) {
            return node >= 0 && node < nodes;
        }

        boolean hasAll(int bits) {
            return bits >= 0 && bits < 1 << nodes;
        }

        boolean hasCase(int node, int at) {
            return has(node) && at >= 0 && at < 1 << leanCount[node];
        }

        boolean isSeen(int node) {
            return has(node) && (seen >> node & 1) != 0;
        }

        boolean canTake(int leans, int deep) {
            return nodes < MOST && hasAll(leans) && Integer.bitCount(leans) <= LEANS
                && deep >= 1 && deep <= DEEPEST && (long) depths * deep <= ALL_DEPTHS;
        }

        int take(int leans, int deep) {
            int node = nodes;
            leaning[node] = leans;
            depth[node] = deep;
            price[node] = 1;
            int count = 0;
            for (int other = 0; other < node && count < LEANS; other++) {
                if ((leans >> other & 1) != 0) {
                    leanedOn[node * LEANS + count] = other;
                    count++;
                }
            }
            leanCount[node] = count;
            depths *= deep;
            nodes++;
            fresh = false;
            return node;
        }

        int numberAt(int node, int at) {
            return table[node * CASES + at];
        }

        int exchange(int node, int at, int v) {
            int old = table[node * CASES + at];
            table[node * CASES + at] = v;
            fresh = false;
            return old;
        }

        void forceTo(int node, int state) {
            int bit = 1 << node;
            forced = state == NONE ? forced & ~bit : forced | bit;
            forcedSo = state == 1 ? forcedSo | bit : forcedSo & ~bit;
            fresh = false;
        }

        void seeAs(int node, int state) {
            int bit = 1 << node;
            if ((seen & bit) == 0 && things < MOST) {
                line[things] = node;
                things++;
            }
            seen |= bit;
            seenSo = state == 1 ? seenSo | bit : seenSo & ~bit;
        }

        void unsee(int node) {
            int place = placeOf(node);
            if (place == NONE) {
                return;
            }
            things--;
            for (int i = place; i < things; i++) {
                line[i] = line[i + 1];
            }
            seen &= ~(1 << node);
            seenSo &= ~(1 << node);
        }

        int placeOf(int node) {
            for (int i = 0; i < things; i++) {
                if (line[i] == node) {
                    return i;
                }
            }
            return NONE;
        }

        /** The weights no longer hold, and are worked anew when they are asked for. */
        void forget() {
            fresh = false;
        }

        /** Works the weights anew, if they no longer hold: whatever weighs is asked behind this. */
        void refresh() {
            if (fresh) {
                return;
            }
            weights[0] = 1;
            for (int node = 0; node < nodes; node++) {
                widen(node);
            }
            fresh = true;
        }

        private void widen(int node) {
            int half = 1 << node;
            int deep = depth[node];
            for (int way = 0; way < half; way++) {
                int so = numberIn(node, way);
                weights[half + way] = weights[way] * so;
                weights[way] *= deep - so;
            }
        }

        private int numberIn(int node, int way) {
            if ((forced >> node & 1) != 0) {
                return (forcedSo >> node & 1) * depth[node];
            }
            int at = 0;
            for (int i = 0; i < leanCount[node]; i++) {
                at |= (way >> leanedOn[node * LEANS + i] & 1) << i;
            }
            return table[node * CASES + at];
        }

        int weightOf(int way) {
            return hasAll(way) ? weights[way] : NONE;
        }

        /** Weight of all ways that have these bits in the mask. */
        int weigh(int mask, int bits) {
            int rest = ((1 << nodes) - 1) & ~mask;
            int ways = 1 << Integer.bitCount(rest);
            int sum = 0;
            int part = 0;
            for (int i = 0; i < ways; i++) {
                sum += weights[bits | part];
                // the next sub-mask of the rest
                part = (part - rest) & rest;
            }
            return sum;
        }

        int weighNow() {
            return weigh(seen, seenSo);
        }

        int weighNowWith(int node, int state) {
            return weighWith(seen, seenSo, node, state);
        }

        int weighNowAllSo(int bits) {
            // a thing seen not to be so can't be so with the others
            return (seen & bits & ~seenSo) != 0 ? 0 : weigh(seen | bits, seenSo | bits);
        }

        private int weighWith(int mask, int bits, int node, int state) {
            if ((mask >> node & 1) != 0 && (bits >> node & 1) != state) {
                return 0;
            }
            return weigh(mask | 1 << node, bits | state << node);
        }

        /** The chance of a node now; false, if now has no weight. */
        boolean putChance(int node, Fraction chance) {
            int now = weighNow();
            if (now == 0) {
                return false;
            }
            chance.put(weighNowWith(node, 1), now);
            return true;
        }

        int heaviestNow() {
            int best = NONE;
            int ways = 1 << nodes;
            for (int way = 0; way < ways; way++) {
                if ((way & seen) == seenSo && (best == NONE || weights[way] > weights[best])) {
                    best = way;
                }
            }
            return best;
        }

        /** The chance of a claim now less that without one thing seen; now has weight. */
        void putMove(int claim, int thing, Fraction move) {
            int mask = seen & ~(1 << thing);
            int bits = seenSo & ~(1 << thing);
            long now = weighNow();
            long nowSo = weighNowWith(claim, 1);
            long want = weigh(mask, bits);
            long wantSo = weighWith(mask, bits, claim, 1);
            move.put(nowSo * want - wantSo * now, now * want);
        }

        /** The mean move of a claim by seeing a node, by a cost; now has weight. */
        void putWorth(int claim, int node, int cost, Fraction mean) {
            long now = weighNow();
            long claimNow = weighNowWith(claim, 1);
            long so = weighNowWith(node, 1);
            int both = 1 << claim | 1 << node;
            long claimSo = weighNowAllSo(both);
            // both answers move as far, each by its chance, one up and one down
            mean.put(2 * Math.abs(claimSo * now - claimNow * so), now * now * cost);
        }

        boolean canLookAt(int node) {
            return has(node) && ((seen | forced) >> node & 1) == 0;
        }

        boolean canLookBeside(int claim) {
            int others = ((1 << nodes) - 1) & ~(seen | forced | 1 << claim);
            return others != 0;
        }

        int onlyLean(int node) {
            return leanCount[node] == 1 ? leanedOn[node * LEANS] : NONE;
        }

        boolean isPairBeside(int a, int b, int given) {
            return has(a) && has(b) && a != b && hasAll(given)
                && (given >> a & 1) == 0 && (given >> b & 1) == 0;
        }

        /** Whether in one case of given nodes two nodes are as often together as by themselves. */
        boolean isEvenIn(int a, int b, int given, int spread) {
            int rest = ((1 << nodes) - 1) & ~given;
            int ways = 1 << Integer.bitCount(rest);
            long all = 0;
            long soA = 0;
            long soB = 0;
            long both = 0;
            int part = 0;
            for (int i = 0; i < ways; i++) {
                int way = spread | part;
                int weight = weights[way];
                all += weight;
                soA += (way >> a & 1) * weight;
                soB += (way >> b & 1) * weight;
                both += (way >> a & way >> b & 1) * weight;
                part = (part - rest) & rest;
            }
            return both * all == soA * soB;
        }

        private int leansOf(int node) {
            return (forced >> node & 1) != 0 ? 0 : leaning[node];
        }

        private int leanersOn(int node) {
            int leaners = 0;
            for (int other = node + 1; other < nodes; other++) {
                leaners |= (leansOf(other) >> node & 1) << other;
            }
            return leaners;
        }

        /**
         * Whether a row of free nodes goes from a to b. A node may be come to from one that leans
         * on it (fromBelow) or from one that it leans on (fromAbove): that alone decides how to go on.
         * Where two meet and one far below is given, the way goes down to that one and back.
         */
        boolean connects(int a, int b, int given) {
            int fromBelow = leansOf(a);
            int fromAbove = leanersOn(a);
            for (int round = 0; round < 2 * MOST; round++) {
                int below = fromBelow;
                int above = fromAbove;
                for (int node = 0; node < nodes; node++) {
                    boolean passes = (given >> node & 1) == 0;
                    boolean lower = (below >> node & 1) != 0;
                    boolean upper = (above >> node & 1) != 0;
                    if (passes && lower || !passes && upper) {
                        fromBelow |= leansOf(node);
                    }
                    if (passes && (lower || upper)) {
                        fromAbove |= leanersOn(node);
                    }
                }
            }
            return ((fromBelow | fromAbove) >> b & 1) != 0;
        }
    }

    /** What is forced, seen, in tables and costs, kept for later. */
    private static final class Kept {
        boolean there;
        private int nodes;
        private int forced;
        private int forcedSo;
        private int seen;
        private int seenSo;
        private int things;
        private final int[] line;
        private final int[] table;
        private final int[] price;

        Kept() {
            there = false;
            line = new int[Net.MOST];
            table = new int[Net.MOST * Net.CASES];
            price = new int[Net.MOST];
        }

        void copyFrom(Net net) {
            there = true;
            nodes = net.nodes;
            forced = net.forced;
            forcedSo = net.forcedSo;
            seen = net.seen;
            seenSo = net.seenSo;
            things = net.things;
            System.arraycopy(net.line, 0, line, 0, things);
            System.arraycopy(net.table, 0, table, 0, nodes * Net.CASES);
            System.arraycopy(net.price, 0, price, 0, nodes);
        }

        void copyTo(Net net) {
            net.forced = forced;
            net.forcedSo = forcedSo;
            net.seen = seen;
            net.seenSo = seenSo;
            net.things = things;
            System.arraycopy(line, 0, net.line, 0, things);
            System.arraycopy(table, 0, net.table, 0, nodes * Net.CASES);
            System.arraycopy(price, 0, net.price, 0, nodes);
            net.forget();
        }
    }

    /** THE TEXT, and how it is read as a saying. */
    private static final class Text {
        static final int MOST = 60;
        private static final int NESTED = 5;
        private static final int DIGITS = 8;
        private static final char END = 0;

        final char[] signs;
        int length;
        private int at;
        private int limit;
        private int letters;

        Text() {
            signs = new char[MOST];
            length = 0;
        }

        void append(int v) {
            for (int shift = 24; shift >= 0 && length < MOST; shift -= 8) {
                signs[length] = (char) (v >> shift & 255);
                length++;
            }
        }

        /** NONE, or the place of the sign that can't stand there. */
        int parse(int signsToRead, int nodes, Saying saying) {
            at = 0;
            limit = Math.min(signsToRead, Saying.MOST);
            letters = nodes;
            saying.clear();
            boolean whole = parseFirst(saying) && parseSecond(saying) && at == limit;
            if (!whole && at < limit) {
                return at;
            }
            if (!whole || signsToRead > limit) {
                return limit;
            }
            System.arraycopy(signs, 0, saying.signs, 0, limit);
            saying.length = limit;
            return NONE;
        }

        private boolean parseFirst(Saying saying) {
            if (!parseTerm(saying, 0)) {
                return false;
            }
            char sign = look();
            boolean beside = sign == '~' && !saying.isNumber(0) && saying.from[1] == NONE;
            if (sign != '=' && sign != '<' && sign != '>' && !beside) {
                return false;
            }
            saying.relation = sign;
            at++;
            return true;
        }

        private boolean parseSecond(Saying saying) {
            return saying.isBeside() ? parseGiven(saying, 1) : parseTerm(saying, 1);
        }

        private boolean parseTerm(Saying saying, int side) {
            return isDigit(look()) ? parseRate(saying, side) : parseGiven(saying, side);
        }

        private boolean parseRate(Saying saying, int side) {
            saying.up[side] = parseNumber();
            if (look() != ':') {
                return false;
            }
            at++;
            if (!isDigit(look()) || look() == '0') {
                return false;
            }
            saying.low[side] = parseNumber();
            return true;
        }

        private int parseNumber() {
            int number = 0;
            for (int i = 0; i < DIGITS && isDigit(look()); i++) {
                number = number * 10 + look() - '0';
                at++;
            }
            return number;
        }

        /** An event, perhaps / and an event. */
        private boolean parseGiven(Saying saying, int side) {
            if (!parseEvent(saying, 2 * side)) {
                return false;
            }
            if (look() != '/') {
                return true;
            }
            at++;
            return parseEvent(saying, 2 * side + 1);
        }

        private boolean parseEvent(Saying saying, int part) {
            saying.from[part] = at;
            int open = 0;
            while (at < limit) {
                char sign = look();
                if (sign == '!' || sign == '(' && open < NESTED) {
                    open += sign == '(' ? 1 : 0;
                    at++;
                    continue;
                }
                if (sign < 'a' || sign >= 'a' + letters) {
                    return false;
                }
                at++;
                open = closeBrackets(open);
                sign = look();
                if (sign != '&' && sign != '|') {
                    return open == 0;
                }
                if (open == 0) {
                    saying.ands[part] += sign == '&' ? 1 : 0;
                    saying.ors[part] += sign == '|' ? 1 : 0;
                }
                at++;
            }
            return false;
        }

        private int closeBrackets(int open) {
            int left = open;
            while (left > 0 && look() == ')') {
                left--;
                at++;
            }
            return left;
        }

        private char look() {
            return at < limit ? signs[at] : END;
        }

        private static boolean isDigit(char sign) {
            return sign >= '0' && sign <= '9';
        }
    }

    /** A text that was read, with where its events begin: side 0, what it is given, side 1, likewise. */
    private static final class Saying {
        static final int MOST = 40;
        private static final int PARTS = 4;

        final char[] signs;
        int length;
        char relation;
        final int[] from;
        final int[] ands;
        final int[] ors;
        final int[] up;
        final int[] low;

        Saying() {
            signs = new char[MOST];
            from = new int[PARTS];
            ands = new int[PARTS];
            ors = new int[PARTS];
            up = new int[2];
            low = new int[2];
            relation = '=';
        }

        void clear() {
            length = 0;
            relation = '=';
            for (int part = 0; part < PARTS; part++) {
                from[part] = NONE;
                ands[part] = 0;
                ors[part] = 0;
            }
        }

        boolean isBeside() {
            return relation == '~';
        }

        boolean isNumber(int side) {
            return from[2 * side] == NONE;
        }

        /** Whether an event is an & of two or more things. */
        boolean isAnd(int part) {
            return ands[part] > 0 && ors[part] == 0;
        }

        boolean holds(int compared) {
            return relation == '=' ? compared == 0 : relation == '<' ? compared < 0 : compared > 0;
        }

        char signAt(int at) {
            return at >= 0 && at < length ? signs[at] : (char) 0;
        }
    }

    /** Events as sets of ways, a bit for each way, on a pile; and what sayings come to by them. */
    private static final class Sets {
        static final int AS_SAID = 0;
        static final int TURNED = 1;
        static final int BARE = 2;
        static final int ALONE = 3;
        static final int OTHER = 4;

        private static final int WORDS = Net.WAYS / 64;
        // two sets stand below; six levels of brackets hold back one by | and one by &, then the last
        private static final int PILE = 16;
        private static final int NESTED = 5;
        // the ways of 64 in which each of the first six nodes is so
        private static final long[] SO = {
            0xAAAAAAAAAAAAAAAAL, 0xCCCCCCCCCCCCCCCCL, 0xF0F0F0F0F0F0F0F0L,
            0xFF00FF00FF00FF00L, 0xFFFF0000FFFF0000L, 0xFFFFFFFF00000000L
        };

        private final long[][] pile;
        private final Fraction factor;
        private int top;
        private int words;
        private int at;

        Sets() {
            pile = new long[PILE][WORDS];
            factor = new Fraction();
            words = 1;
        }

        /** With ~: 1, 0 whether both events are as often together as by themselves; -2. */
        int findBeside(Net net, Saying saying) {
            long given = weighGiven(net, saying, saying.from[3]);
            if (given == 0) {
                return NO_WEIGHT;
            }
            long one = weighEvent(net, saying, saying.from[0]);
            at = saying.from[2];
            readAny(saying, 0);
            long other = weighBoth(net, 2, 0);
            meet();
            long both = weighBoth(net, 1, 0);
            return both * given == one * other ? 1 : 0;
        }

        /** What a term is by a slip: 0; -2 if it is open; -9. */
        int findTerm(Net net, Saying saying, int side, int kind, Fraction found) {
            if (saying.isNumber(side)) {
                found.put(saying.up[side], saying.low[side]);
                return 0;
            }
            int part = 2 * side;
            boolean turned = kind == TURNED && saying.from[part + 1] != NONE;
            int event = saying.from[turned ? part + 1 : part];
            int given = kind == BARE ? NONE : saying.from[turned ? part : part + 1];
            int all = weighGiven(net, saying, given);
            if (all == 0) {
                return NO_WEIGHT;
            }
            if (kind == ALONE && saying.isAnd(part)) {
                return findProduct(net, saying, event, all, found);
            }
            int so = weighEvent(net, saying, event);
            found.put(kind == OTHER ? all - so : so, all);
            return 0;
        }

        private int findProduct(Net net, Saying saying, int event, int all, Fraction found) {
            found.put(1, 1);
            at = event;
            for (int i = 0; i < Saying.MOST; i++) {
                top = 1;
                readThing(saying, 0);
                factor.put(weighBoth(net, 1, 0), all);
                if (!found.times(factor.up, factor.low)) {
                    return TOO_GREAT;
                }
                if (saying.signAt(at) != '&') {
                    break;
                }
                at++;
            }
            return 0;
        }

        /** Puts what is given at the foot of the pile (all ways, if nothing is). */
        private int weighGiven(Net net, Saying saying, int from) {
            words = Math.max(1, (1 << net.nodes) / 64);
            top = 0;
            if (from == NONE) {
                pushAll();
            } else {
                at = from;
                readAny(saying, 0);
            }
            return weighBoth(net, 0, 0);
        }

        /** Puts an event above what is given: the weight of both. */
        private int weighEvent(Net net, Saying saying, int from) {
            top = 1;
            at = from;
            readAny(saying, 0);
            return weighBoth(net, 1, 0);
        }

        private int weighBoth(Net net, int one, int other) {
            int sum = 0;
            int ways = 1 << net.nodes;
            for (int way = 0; way < ways; way++) {
                long both = pile[one][way >> 6] & pile[other][way >> 6];
                if ((both >>> (way & 63) & 1) != 0) {
                    sum += net.weights[way];
                }
            }
            return sum;
        }

        private void readAny(Saying saying, int deep) {
            readAll(saying, deep);
            while (saying.signAt(at) == '|' && at < Saying.MOST) {
                at++;
                readAll(saying, deep);
                widen();
            }
        }

        private void readAll(Saying saying, int deep) {
            readThing(saying, deep);
            while (saying.signAt(at) == '&' && at < Saying.MOST) {
                at++;
                readThing(saying, deep);
                meet();
            }
        }

        private void readThing(Saying saying, int deep) {
            boolean turned = false;
            while (saying.signAt(at) == '!' && at < Saying.MOST) {
                turned = !turned;
                at++;
            }
            if (saying.signAt(at) == '(' && deep < NESTED) {
                at++;
                readAny(saying, deep + 1);
            } else {
                pushNode(saying.signAt(at) - 'a');
            }
            at++;
            if (turned) {
                turn();
            }
        }

        private void pushNode(int node) {
            if (top >= PILE || node < 0 || node >= Net.MOST) {
                return;
            }
            for (int i = 0; i < words; i++) {
                pile[top][i] = node < SO.length ? SO[node] : -(long) (i >> (node - SO.length) & 1);
            }
            top++;
        }

        private void pushAll() {
            for (int i = 0; i < words; i++) {
                pile[0][i] = -1L;
            }
            top = 1;
        }

        private void turn() {
            for (int i = 0; i < words && top > 0; i++) {
                pile[top - 1][i] = ~pile[top - 1][i];
            }
        }

        private void widen() {
            if (top < 2) {
                return;
            }
            for (int i = 0; i < words; i++) {
                pile[top - 2][i] |= pile[top - 1][i];
            }
            top--;
        }

        private void meet() {
            if (top < 2) {
                return;
            }
            for (int i = 0; i < words; i++) {
                pile[top - 2][i] &= pile[top - 1][i];
            }
            top--;
        }
    }

    /** Numbers of tables that are known in spans alone. */
    private static final class Spans {
        static final int MOST = 6;

        int told;
        private final int[] nodes;
        private final int[] places;
        private final int[] lows;
        private final int[] highs;
        private final int[] held;

        Spans() {
            told = 0;
            nodes = new int[MOST];
            places = new int[MOST];
            lows = new int[MOST];
            highs = new int[MOST];
            held = new int[MOST];
        }

        int find(int node, int at) {
            for (int i = 0; i < told; i++) {
                if (nodes[i] == node && places[i] == at) {
                    return i;
                }
            }
            return NONE;
        }

        int enter(int i, int node, int at, int low, int high) {
            nodes[i] = node;
            places[i] = at;
            lows[i] = low;
            highs[i] = high;
            told = Math.max(told, i + 1);
            return told;
        }

        int drop(int place) {
            told--;
            for (int i = place; i < told; i++) {
                nodes[i] = nodes[i + 1];
                places[i] = places[i + 1];
                lows[i] = lows[i + 1];
                highs[i] = highs[i + 1];
            }
            return told;
        }

        /** The least or greatest chance of a node now, over all ends; false, if now has no weight in any. */
        boolean findReach(Net net, int node, boolean greatest, Fraction best, Fraction tried) {
            boolean found = false;
            hold(net);
            for (int ends = 0; ends < 1 << told; ends++) {
                for (int i = 0; i < told; i++) {
                    moveTo(net, i, (ends >> i & 1) != 0);
                }
                net.refresh();
                if (!net.putChance(node, tried)) {
                    continue;
                }
                int by = found ? tried.compare(best) : 0;
                if (!found || (greatest ? by > 0 : by < 0)) {
                    best.put(tried.up, tried.low);
                    found = true;
                }
            }
            giveBack(net);
            return found;
        }

        /** Whether one span alone parts the chance of a node now. */
        boolean parts(Net net, int node, int i, Fraction atLow, Fraction atHigh) {
            hold(net);
            moveTo(net, i, false);
            net.refresh();
            boolean lowThere = net.putChance(node, atLow);
            moveTo(net, i, true);
            net.refresh();
            boolean highThere = net.putChance(node, atHigh);
            giveBack(net);
            return lowThere && highThere && atLow.compare(atHigh) != 0;
        }

        private void moveTo(Net net, int i, boolean high) {
            net.exchange(nodes[i], places[i], high ? highs[i] : lows[i]);
        }

        private void hold(Net net) {
            for (int i = 0; i < told; i++) {
                held[i] = net.numberAt(nodes[i], places[i]);
            }
        }

        private void giveBack(Net net) {
            for (int i = 0; i < told; i++) {
                net.exchange(nodes[i], places[i], held[i]);
            }
        }
    }

    /** What a head comes to for a claim, thing by thing. */
    private static final class Hearing {
        static final int ALL_HABITS = 31;
        private static final int NO_RARENESS = 1;
        private static final int AS_IF_ALONE = 2;
        private static final int TURNED_ABOUT = 4;
        private static final int SMALL_IS_NEVER = 8;
        private static final int TIRES = 16;
        private static final int HEARD = 2;
        private static final int NOT_HEARD = 3;

        final Fraction odds;
        final int[] line;
        int things;
        private final Fraction withClaim;
        private final Fraction without;
        private final int[] sums;
        private int claimBit;
        private int thingBits;

        Hearing() {
            odds = new Fraction();
            line = new int[Net.MOST];
            withClaim = new Fraction();
            without = new Fraction();
            sums = new int[Net.WAYS];
        }

        /**
         * Sums, for each set of things (bits of nodes), the weight of all ways in which these are as
         * seen: with the claim's bit those of the claim, without it those of its not being so.
         */
        void prepare(Net net, int claim) {
            claimBit = 1 << claim;
            thingBits = net.seen & ~claimBit;
            things = 0;
            for (int i = 0; i < net.things; i++) {
                if (net.line[i] != claim) {
                    line[things] = net.line[i];
                    things++;
                }
            }
            net.refresh();
            int ways = 1 << net.nodes;
            for (int i = 0; i < ways; i++) {
                sums[i] = 0;
            }
            for (int way = 0; way < ways; way++) {
                sums[~(way ^ net.seenSo) & thingBits | way & claimBit] += net.weights[way];
            }
            for (int i = 0; i < things; i++) {
                addThose(1 << line[i], ways);
            }
        }

        private void addThose(int bit, int ways) {
            for (int i = 0; i < ways; i++) {
                if ((i & bit) == 0) {
                    sums[i] += sums[i | bit];
                }
            }
        }

        /** Weight of all that is seen but the claim, with the claim or with its not being so. */
        int weighAll(boolean claim) {
            return sums[claim ? thingBits | claimBit : thingBits];
        }

        /** 0 with the odds, SURE, or TOO_GREAT. */
        int listen(int habits, int m) {
            if (!begin(habits)) {
                return SURE;
            }
            int heard = 0;
            int last = (habits & TIRES) != 0 ? Math.min(m, things) : things;
            for (int i = 0; i < last; i++) {
                int bit = 1 << line[i];
                int answer = listenTo(habits, m, heard, bit);
                if (answer == HEARD) {
                    heard |= bit;
                } else if (answer != NOT_HEARD) {
                    return answer;
                }
            }
            return 0;
        }

        private boolean begin(int habits) {
            if ((habits & NO_RARENESS) != 0) {
                odds.put(1, 1);
                return true;
            }
            if (sums[0] == 0) {
                return false;
            }
            odds.put(sums[claimBit], sums[0]);
            return true;
        }

        private int listenTo(int habits, int m, int heard, int bit) {
            int given = (habits & AS_IF_ALONE) != 0 ? 0 : heard;
            if (sums[given | claimBit] == 0 || sums[given] == 0) {
                return NOT_HEARD;
            }
            withClaim.put(sums[given | claimBit | bit], sums[given | claimBit]);
            without.put(sums[given | bit], sums[given]);
            if ((habits & SMALL_IS_NEVER) != 0 && without.up * 1000 * m < without.low) {
                without.put(0, 1);
            }
            return (habits & TURNED_ABOUT) != 0 ? turnAbout() : takeIn();
        }

        private int turnAbout() {
            if (without.up == 0) {
                return SURE;
            }
            odds.put(without.low - without.up, without.up);
            return HEARD;
        }

        private int takeIn() {
            long upper = odds.up;
            long lower = odds.low;
            if (!odds.times(withClaim.up, withClaim.low)) {
                return TOO_GREAT;
            }
            if (without.up == 0) {
                if (odds.up != 0) {
                    return SURE;
                }
                odds.put(upper, lower);
                return NOT_HEARD;
            }
            return odds.times(without.low, without.up) ? HEARD : TOO_GREAT;
        }

        void sortThings() {
            int place = 0;
            for (int node = 0; node < Net.MOST && place < things; node++) {
                if ((thingBits >> node & 1) != 0) {
                    line[place] = node;
                    place++;
                }
            }
        }

        /** The next order of things by numbers of nodes; false behind the last. */
        boolean nextOrder() {
            int rise = things - 2;
            while (rise >= 0 && line[rise] > line[rise + 1]) {
                rise--;
            }
            if (rise < 0) {
                return false;
            }
            int above = things - 1;
            while (above > rise && line[above] < line[rise]) {
                above--;
            }
            swap(rise, above);
            int left = rise + 1;
            int right = things - 1;
            while (left < right) {
                swap(left, right);
                left++;
                right--;
            }
            return true;
        }

        private void swap(int i, int j) {
            int held = line[i];
            line[i] = line[j];
            line[j] = held;
        }
    }

    /** Lands, and how many of their people have marks. */
    private static final class Lands {
        static final int MOST = 8;
        static final int MARKS = 6;
        static final int MISSING = 3;

        int told;
        private final int[] people;
        private final int[] counted;
        private final int[] entries;

        Lands() {
            told = 0;
            people = new int[MOST];
            counted = new int[MOST];
            entries = new int[MOST * MARKS];
        }

        boolean has(int land) {
            return land >= 0 && land < told;
        }

        /** An entry as a sheet of bytes, shorts or ints holds it. */
        static int cut(int kind, int entry) {
            return kind == 0 ? (byte) entry : kind == 1 ? (short) entry : entry;
        }

        /** Writes on the sheet of the land that comes next. */
        void write(int mark, int entry) {
            entries[told * MARKS + mark] = entry;
        }

        int close(int there, int n) {
            people[told] = there;
            counted[told] = n;
            told++;
            return told - 1;
        }

        /** False, if the mark was not counted there. */
        boolean putMark(int land, int mark, Fraction rate) {
            if (mark >= counted[land]) {
                return false;
            }
            rate.put(entries[land * MARKS + mark], people[land]);
            return true;
        }
    }

    /** Days by what was on them; their order changes no answer. */
    private static final class Shifts {
        static final int MOST = 30;

        int days;
        int daysOn;
        int deathsOn;
        int deathsOff;
        int lookedOn;
        int lookedOff;

        Shifts() {
            days = 0;
        }

        int enter(boolean on, boolean death, boolean looked) {
            days++;
            daysOn += on ? 1 : 0;
            deathsOn += on && death ? 1 : 0;
            deathsOff += !on && death ? 1 : 0;
            lookedOn += on && looked ? 1 : 0;
            lookedOff += !on && looked ? 1 : 0;
            return days;
        }

        /** In how many ways deaths fall on days so that this many or more are on days on. */
        long lots(int on, int deaths) {
            long sum = 0;
            for (int i = on; i <= deaths; i++) {
                sum += choices(daysOn, i) * choices(days - daysOn, deaths - i);
            }
            return sum;
        }

        static long choices(int all, int some) {
            if (some < 0 || some > all) {
                return 0;
            }
            long ways = 1;
            for (int i = 1; i <= some; i++) {
                ways = ways * (all - some + i) / i;
            }
            return ways;
        }
    }
}
