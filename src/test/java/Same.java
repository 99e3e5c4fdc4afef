import java.util.ArrayList;
import java.util.List;
import java.util.NoSuchElementException;

/**
 * Whether a call leaves all as it was: two objects are made alike, one of them is asked, and all that can
 * be read of both is read and compared: counts, the ROW, TABLES, COSTS, what is SEEN and FORCED, SAYINGS,
 * SPANS, HEADS, LANDS, SHIFTS, THE TEXT and what was kept.
 */
final class Same {
    // an object answers for 512 calls; making one may take some
    private static final int MOST_CALLS = 400;
    private static final int CLAIMS = 4;

    private final OddsInCourt x;
    private final List<String> told = new ArrayList<>();

    private Same(OddsInCourt x) {
        this.x = x;
    }

    interface Making {
        OddsInCourt make();
    }

    interface Asking {
        long ask(OddsInCourt x);
    }

    /** A call that answers this and changes nothing, the ROW neither. */
    static void unchanged(String what, long due, Making making, Asking asking) {
        OddsInCourt asked = making.make();
        Due.is(what, due, asking.ask(asked));
        compare(what, making.make(), asked);
    }

    /** A call that answers this, and then all is as in another object. */
    static void becomes(String what, long due, Making making, Asking asking, Making then) {
        OddsInCourt asked = making.make();
        Due.is(what, due, asking.ask(asked));
        compare(what, then.make(), asked);
    }

    /** A call that is refused: NONE. */
    static void refused(String what, Making making, Asking asking) {
        unchanged(what, OddsInCourt.NONE, making, asking);
    }

    interface Doing {
        boolean ask(OddsInCourt x);
    }

    /** A call that is refused: false. */
    static void denied(String what, Making making, Doing doing) {
        unchanged(what, 0, making, x -> doing.ask(x) ? 1 : 0);
    }

    /** A call that answers this, tells just this ROW, and changes nothing else. */
    static void tells(String what, long due, Making making, Asking asking, long... row) {
        OddsInCourt asked = making.make();
        OddsInCourt other = making.make();
        Due.is(what, due, asking.ask(asked));
        Due.row(what, asked, row);
        asked.list(1, 1, 1, 1);
        other.list(1, 1, 1, 1);
        compare(what, other, asked);
    }

    /** A call that throws NoSuchElementException and changes nothing. */
    static void throwing(String what, Making making, Asking asking) {
        OddsInCourt asked = making.make();
        boolean thrown = false;
        try {
            asking.ask(asked);
        } catch (NoSuchElementException e) {
            thrown = true;
        }
        Due.is(what + " throws", true, thrown);
        compare(what, making.make(), asked);
    }

    private static void compare(String what, OddsInCourt other, OddsInCourt asked) {
        List<String> before = read(other);
        List<String> after = read(asked);
        Due.is(what + ": as much to read", before.size(), after.size());
        Due.is(what + ": calls to read it", true, before.size() <= MOST_CALLS);
        for (int i = 0; i < before.size() && i < after.size(); i++) {
            if (!before.get(i).equals(after.get(i))) {
                Due.is(what + " changed " + before.get(i) + " to " + after.get(i), 0, 1);
                return;
            }
        }
    }

    /** All that there is to read, one text a call; the object can't be used for other things then. */
    static List<String> read(OddsInCourt x) {
        Same same = new Same(x);
        same.counts();
        same.row();
        same.net();
        same.sayings();
        same.spans();
        same.heads();
        same.landsAndShifts();
        same.text();
        same.kept();
        return same.told;
    }

    private void tell(String call, long answer) {
        told.add(call + " " + answer);
    }

    private void counts() {
        for (int what = 0; what <= 10; what++) {
            tell("count " + what, x.count(what));
        }
    }

    private void row() {
        int numbers = x.count(7);
        for (int i = 0; i < numbers; i++) {
            tell("row " + i, x.row(i));
        }
    }

    private void net() {
        int nodes = x.count(0);
        for (int node = 0; node < nodes; node++) {
            int cases = 1 << Integer.bitCount(x.of(node, 0));
            for (int what = 0; what < 5 + Math.min(cases, nodes > CLAIMS ? 2 : 8); what++) {
                tell("of " + node + " " + what, x.of(node, what));
            }
        }
        for (int way = 0; way < Math.min(16, 1 << nodes); way++) {
            tell("weight " + way, x.weight(way));
        }
        tell("weight of all", x.weight((1 << nodes) - 1));
    }

    private void sayings() {
        for (int saying = 0; saying < x.count(2); saying++) {
            tell("which " + saying, x.which(saying));
            tell("so " + saying, x.so(saying));
            terms(saying);
        }
    }

    private void terms(int saying) {
        for (int side = 0; side < 2; side++) {
            tell("term " + saying + " " + side, x.term(saying, side));
            row();
        }
    }

    private void spans() {
        for (int node = 0; node < Math.min(CLAIMS, x.count(0)); node++) {
            tell("leans " + node, x.leans(node));
            tell("reach least " + node, x.reach(node, 0));
            row();
            tell("reach greatest " + node, x.reach(node, 1));
            row();
        }
    }

    private void heads() {
        for (int head = 0; head < x.count(4); head++) {
            for (int claim = 0; claim < Math.min(CLAIMS, x.count(0)); claim++) {
                tell("hear " + head + " " + claim, x.hear(head, claim));
                row();
            }
        }
    }

    private void landsAndShifts() {
        for (int land = 0; land < x.count(5); land++) {
            for (int mark = 0; mark < 6; mark += x.count(5) > CLAIMS ? 5 : 1) {
                tell("mark " + land + " " + mark, x.mark(land, mark));
                row();
            }
        }
        tell("shifts of all", x.shifts(0));
        row();
        tell("shifts of those looked at", x.shifts(1));
        row();
        tell("enough 1", x.enough(1));
        tell("enough 3", x.enough(3));
    }

    private void text() {
        int saying = x.say();
        tell("say", saying);
        if (saying >= 0) {
            terms(saying);
        }
    }

    private void kept() {
        for (int i = 0; i < 3; i++) {
            boolean there = x.again(i);
            tell("again " + i, there ? 1 : 0);
            if (there) {
                tell("seen then", x.count(1));
                tell("forced then", x.count(10));
                net();
            }
        }
    }

    /**
     * An object with something of each kind. a: 1 in 4; b leans on a: 3 in 4 with it, 1 in 4 without; c leans
     * on both, in parts of 5: 1, 2, 3, 4; d 1 in 2, FORCED so. SEEN: c so, then b not. Kept under 1: when c
     * alone was SEEN and nothing FORCED. The ROW: four numbers. THE TEXT: a=1:2.
     */
    static OddsInCourt rich() {
        OddsInCourt x = new OddsInCourt();
        x.node(0, 4);
        x.node(1, 4);
        x.node(3, 5);
        x.node(0, 2);
        x.set(0, 0, 1);
        x.set(1, 0, 1);
        x.set(1, 1, 3);
        for (int at = 0; at < 4; at++) {
            x.set(2, at, 1 + at);
        }
        x.set(3, 0, 1);
        x.cost(1, 3);
        x.see(2, 1);
        x.keep(1);
        x.cost(2, 7);
        x.force(3, 1);
        x.see(1, 0);
        Due.say(x, "b/a=3:4");
        Due.say(x, "a~d");
        x.span(1, 0, 0, 2);
        x.span(0, 0, 1, 3);
        x.head(0, 1);
        x.land(10, 0, 2, 3, 1);
        x.land(20, 3, 0, 0, 0);
        x.day(true, true, true);
        x.day(false, true, false);
        x.day(false, false, false);
        // changed behind the last call that weighs, so that the next one has to work it out
        x.set(0, 0, 2);
        x.joined(5);
        x.set(0, 0, 1);
        Due.write(x, "a=1:2");
        return x;
    }

    /** The rich one, but NOW has no WEIGHT: d is FORCED so and SEEN not to be. */
    static OddsInCourt weightless() {
        OddsInCourt x = rich();
        x.see(3, 0);
        return x;
    }
}
