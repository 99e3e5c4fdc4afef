import java.util.NoSuchElementException;
import java.util.Random;

/** No call throws for any arguments in any state, but of() and row() what the document says. */
final class AnyArgumentTest {
    private static final int[] EDGES = {Integer.MIN_VALUE, Integer.MIN_VALUE + 1, -101, -100, -2, -1, 0, 1, 2, 3,
        4, 5, 6, 7, 8, 9, 10, 11, 12, 15, 16, 31, 32, 40, 60, 61, 63, 99, 100, 255, 1000, 1023, 1024, 10000,
        1000000, 1000001, 10000000, 10000001, 100000000, 100000001, Integer.MAX_VALUE - 1, Integer.MAX_VALUE};

    private static Random lot;
    private static int thrown = 0;

    private AnyArgumentTest() {
    }

    private static int any() {
        return lot.nextInt(3) == 0 ? EDGES[lot.nextInt(EDGES.length)] : lot.nextInt(5) == 0 ? lot.nextInt()
            : lot.nextInt(12);
    }

    public static void main(String[] args) {
        for (int run = 0; run < 300; run++) {
            lot = new Random(run);
            OddsInCourt x = new OddsInCourt();
            for (int i = 0; i < 512; i++) {
                int kind = lot.nextInt(46);
                try {
                    call(x, kind);
                } catch (NoSuchElementException e) {
                    Due.is("of() and row() alone throw", true, kind == 44 || kind == 45);
                    thrown++;
                } catch (RuntimeException e) {
                    Due.is("run " + run + ", call " + i + " of kind " + kind + " threw " + e, 0, 1);
                }
            }
        }
        Due.is("some of() and row() threw", true, thrown > 100);
        Due.end("AnyArgumentTest");
    }

    private static void call(OddsInCourt x, int kind) {
        int a = any();
        int b = any();
        int c = any();
        int d = any();
        switch (kind) {
            case 0: case 1: x.node(lot.nextInt(1 + (1 << Math.min(9, x.count(0)))), 1 + lot.nextInt(9)); break;
            case 2: x.node(a, b); break;
            case 3: x.set(a, b, c); break;
            case 4: x.force(a, b); break;
            case 5: x.see(a, b); break;
            case 6: x.weight(a); break;
            case 7: x.chance(a); break;
            case 8: x.odds(a); break;
            case 9: x.likely(); break;
            case 10: x.moves(a, b); break;
            case 11: x.most(a); break;
            case 12: x.worth(a, b); break;
            case 13: x.cost(a, b); break;
            case 14: x.need(a); break;
            case 15: x.apart(a, b, c); break;
            case 16: x.even(a, b, c); break;
            case 17: x.joined(a); break;
            case 18: x.bounds(a); break;
            case 19: x.sign(lot.nextInt()); break;
            case 20: x.end(a); break;
            case 21: x.say(); break;
            case 22: speak(x); break;
            case 23: x.so(a); break;
            case 24: x.term(a, b); break;
            case 25: x.slip(a, b); break;
            case 26: x.which(a); break;
            case 27: x.span(a, b, c, d); break;
            case 28: x.reach(a, b); break;
            case 29: x.leans(a); break;
            default: more(x, kind, a, b, c, d); break;
        }
    }

    private static void more(OddsInCourt x, int kind, int a, int b, int c, int d) {
        switch (kind) {
            case 30: x.head(a, b); break;
            case 31: x.hear(a, b); break;
            case 32: x.errs(a, b); break;
            case 33: x.order(a, b); break;
            case 34: x.list(a, b, c, d); break;
            case 35: x.many(a, b); break;
            case 36: x.test(a, b, c); break;
            case 37: x.land(a, b, c, d, any()); break;
            case 38: x.mark(a, b); break;
            case 39: x.rare(a, b); break;
            case 40: x.day(lot.nextBoolean(), lot.nextBoolean(), lot.nextBoolean()); break;
            case 41: x.shifts(a); break;
            case 42: x.enough(a); break;
            case 43:
                x.keep(a);
                x.again(b);
                x.count(c);
                break;
            case 44: x.of(a, b); break;
            default: x.row(a); break;
        }
    }

    /** A text of signs that mostly could stand in a saying. */
    private static void speak(OddsInCourt x) {
        String signs = "abc!()&|/=<>~:019";
        StringBuilder text = new StringBuilder();
        int length = lot.nextInt(61);
        while (text.length() < length) {
            text.append(text.length() % 2 == 0 ? "abc".charAt(lot.nextInt(3)) : "&|".charAt(lot.nextInt(2)));
        }
        if (length > 4) {
            text.setCharAt(1 + lot.nextInt(length - 1), signs.charAt(lot.nextInt(signs.length())));
        }
        x.end(0);
        Due.say(x, text.toString());
    }
}
