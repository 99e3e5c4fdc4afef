import java.lang.management.ManagementFactory;
import java.lang.reflect.Array;
import java.lang.reflect.Field;
import java.lang.reflect.Modifier;
import java.util.ArrayDeque;
import java.util.Collections;
import java.util.Deque;
import java.util.IdentityHashMap;
import java.util.Set;

/**
 * What the class takes of the room in which all calls of a run live (some 600,000 objects and arrays,
 * 7.3 million fields and elements): an object is made once, small, and its calls make nothing more.
 */
final class RoomTest {
    // so a run could make 500 objects of the class, and take a quarter of the room
    private static final int MOST_OBJECTS = 300;
    private static final int MOST_ELEMENTS = 4000;
    private static final int ROUNDS = 40;
    // what the measuring itself makes
    private static final long SPARE = 4096;

    private static final com.sun.management.ThreadMXBean BEAN =
        (com.sun.management.ThreadMXBean) ManagementFactory.getThreadMXBean();

    private final Set<Object> met = Collections.newSetFromMap(new IdentityHashMap<>());
    private final Deque<Object> left = new ArrayDeque<>();
    private long elements = 0;

    private RoomTest() {
    }

    public static void main(String[] args) throws IllegalAccessException {
        RoomTest fresh = new RoomTest();
        fresh.walk(new OddsInCourt());
        Due.is("objects and arrays of a new one, " + fresh.met.size(), true, fresh.met.size() <= MOST_OBJECTS);
        Due.is("fields and elements of a new one, " + fresh.elements, true, fresh.elements <= MOST_ELEMENTS);
        OddsInCourt used = full();
        ask(used);
        RoomTest then = new RoomTest();
        then.walk(used);
        Due.is("objects and arrays when it was used", fresh.met.size(), then.met.size());
        Due.is("fields and elements when it was used", fresh.elements, then.elements);
        made();
        Due.end("RoomTest");
    }

    private void walk(OddsInCourt x) throws IllegalAccessException {
        meet(x);
        while (!left.isEmpty()) {
            Object one = left.pop();
            if (one.getClass().isArray()) {
                elements += Array.getLength(one);
                for (int i = 0; i < Array.getLength(one) && !one.getClass().getComponentType().isPrimitive(); i++) {
                    meet(Array.get(one, i));
                }
            } else {
                fields(one);
            }
        }
    }

    private void fields(Object one) throws IllegalAccessException {
        for (Field field : one.getClass().getDeclaredFields()) {
            if (Modifier.isStatic(field.getModifiers())) {
                continue;
            }
            elements++;
            field.setAccessible(true);
            if (!field.getType().isPrimitive()) {
                meet(field.get(one));
            }
        }
    }

    private void meet(Object one) {
        if (one != null && met.add(one)) {
            left.push(one);
        }
    }

    private static void made() {
        long most = 0;
        for (int round = 0; round < ROUNDS; round++) {
            OddsInCourt x = full();
            long before = BEAN.getCurrentThreadAllocatedBytes();
            ask(x);
            long made = BEAN.getCurrentThreadAllocatedBytes() - before;
            // the machine makes things of its own when code is met first
            most = round < ROUNDS / 2 ? 0 : Math.max(most, made);
        }
        Due.is("bytes made by calls, " + most, true, most <= SPARE);
    }

    /** As much as there may be of everything. */
    private static OddsInCourt full() {
        OddsInCourt x = new OddsInCourt();
        for (int node = 0; node < 10; node++) {
            x.node(node < 3 ? (1 << node) - 1 : 7 << node - 3, 6);
            for (int at = 0; at < 8; at++) {
                x.set(node, at, 1 + (node + at) % 5);
            }
        }
        for (int node = 9; node > 4; node--) {
            x.see(node, node & 1);
        }
        for (int i = 0; i < 12; i++) {
            Due.say(x, i < 6 ? "((a|!b)&(c|d))&e&!j/f|(g&h)=1:3" : "a&b~c|d/!e");
        }
        for (int i = 0; i < 6; i++) {
            x.span(i, 0, 1, 5);
            x.head(i * 6, 2);
        }
        for (int i = 0; i < 8; i++) {
            x.land(100, i % 4, 6, i, 7);
        }
        for (int i = 0; i < 30; i++) {
            x.day(i % 3 == 0, i % 2 == 0, i % 4 == 0);
        }
        return x;
    }

    /** Every call that does not throw, some of them refused. */
    private static void ask(OddsInCourt x) {
        net(x);
        sayings(x);
        for (int i = 0; i < 7; i++) {
            x.hear(i, i);
            x.errs(i, 1);
            x.order(i, 0);
            x.shifts(i);
            x.enough(10 * i);
            x.mark(i, i);
            x.rare(i, i & 1);
            x.keep(i);
            x.again(i);
            x.count(i);
        }
        x.test(1, 6, 0);
        x.list(1000, 10, 1, 100);
        x.many(1, 1000000);
        x.of(3, 12);
        x.row(0);
        x.land(1, 0, 0, 0, 0);
        x.day(true, true, true);
        x.head(0, 1);
    }

    private static void net(OddsInCourt x) {
        x.node(0, 1);
        for (int node = 0; node < 10; node++) {
            x.set(node, 0, 2);
            x.cost(node, 3);
            x.chance(node);
            x.odds(node);
            x.moves(0, node);
            x.most(node);
            x.worth(1, node);
            x.need(node);
            x.apart(0, node, 24);
            x.even(0, node, 24);
            x.reach(node, node & 1);
        }
        x.force(4, 1);
        x.force(4, -1);
        x.weight(1023);
        x.likely();
        x.joined(31);
        x.bounds(31);
        x.leans(0);
        x.span(0, 0, 1, 0);
    }

    private static void sayings(OddsInCourt x) {
        for (int i = 1; i < 12; i += 2) {
            x.so(i);
            x.which(i);
            x.term(i, 0);
            x.slip(i, 3);
        }
        x.sign(1630495293);
        x.end(3);
        x.say();
    }
}
