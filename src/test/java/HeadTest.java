/** Promises 29 to 32: head, hear, errs, order. */
final class HeadTest {
    private HeadTest() {
    }

    public static void main(String[] args) {
        telling();
        plain();
        noRareness();
        asIfAlone();
        turnedAbout();
        smallIsNever();
        tires();
        notHeard();
        sure();
        tooGreat();
        errs();
        order();
        orderEdges();
        Due.end("HeadTest");
    }

    /** a 1 in 10; b, c lean on a and c on b too: c is hardly news once b is heard. */
    private static OddsInCourt net() {
        OddsInCourt x = new OddsInCourt();
        x.node(0, 10);
        x.node(1, 10);
        x.node(3, 10);
        x.set(0, 0, 1);
        x.set(1, 1, 8);
        x.set(1, 0, 2);
        x.set(2, 0, 1);
        x.set(2, 1, 1);
        x.set(2, 2, 9);
        x.set(2, 3, 9);
        return x;
    }

    private static void telling() {
        OddsInCourt x = net();
        Due.is("habits 32", -1, x.head(32, 1));
        Due.is("habits -1", -1, x.head(-1, 1));
        Due.is("m 0", -1, x.head(0, 0));
        Due.is("m 100", -1, x.head(0, 100));
        for (int i = 0; i < 6; i++) {
            Due.is("head", i, x.head(i == 5 ? 31 : 0, i == 4 ? 99 : 1));
        }
        Due.is("a seventh", -1, x.head(0, 1));
        Due.is("six", 6, x.count(4));
        Due.is("no such head", -1, x.hear(6, 0));
        Due.is("head below 0", -1, x.hear(-1, 0));
        Due.is("no such claim", -1, x.hear(0, 3));
        Due.is("claim below 0", -1, x.hear(0, -1));
        Due.is("errs: no such head", -1, x.errs(6, 0));
        Due.is("errs: no such claim", -1, x.errs(0, 3));
        Due.is("order: no such head", -1, x.order(-1, 0));
        Due.is("order: no such claim", -1, x.order(0, -1));
    }

    private static void heard(String what, OddsInCourt x, int head, int claim, long up, long low) {
        Due.is(what, 0, x.hear(head, claim));
        Due.row(what, x, up, low);
    }

    private static void plain() {
        OddsInCourt x = net();
        x.head(0, 1);
        heard("nothing seen", x, 0, 0, 1, 9);
        x.see(1, 1);
        heard("times 8/10 by 2/10", x, 0, 0, 4, 9);
        x.see(2, 1);
        heard("c is no news", x, 0, 0, 4, 9);
        x.see(0, 0);
        heard("the claim itself is not heard", x, 0, 0, 4, 9);
        x.see(0, -1);
        x.see(1, -1);
        x.odds(0);
        long up = x.row(0);
        long low = x.row(1);
        heard("as by odds()", x, 0, 0, up, low);
        x.see(1, 0);
        heard("c, then not b", x, 0, 0, 1, 36);
    }

    private static void noRareness() {
        OddsInCourt x = net();
        x.head(1, 1);
        heard("1 by 1", x, 0, 0, 1, 1);
        x.see(1, 1);
        heard("4 by 1", x, 0, 0, 4, 1);
        x.set(0, 0, 10);
        heard("not sure at first; b is not heard", x, 0, 0, 1, 1);
    }

    /** c: (8 * 9 + 2 * 1) of 100 with a, (2 * 9 + 8 * 1) of 100 without. */
    private static void asIfAlone() {
        OddsInCourt x = net();
        x.head(2, 1);
        x.see(1, 1);
        x.see(2, 1);
        heard("4/9 times 74/26", x, 0, 0, 4 * 37, 9 * 13);
        Due.is("errs: greater", 1, x.errs(0, 0));
    }

    private static void turnedAbout() {
        OddsInCourt x = net();
        x.head(4, 1);
        x.see(1, 1);
        heard("8/10 by 2/10", x, 0, 0, 4, 1);
        x.see(2, 1);
        heard("the last alone: 1/10 by 9/10", x, 0, 0, 1, 9);
        x.head(6, 1);
        heard("the last, as if alone: 74 by 26", x, 1, 0, 37, 13);
        x.see(2, 0);
        heard("not c: 9/10 by 1/10", x, 0, 0, 9, 1);
        x.set(1, 0, 0);
        Due.is("b can't be without a", 1, x.hear(0, 0));
        x.set(1, 0, 10);
        x.see(2, -1);
        heard("b is always without a", x, 0, 0, 0, 1);
    }

    private static void smallIsNever() {
        OddsInCourt x = new OddsInCourt();
        x.node(0, 2);
        x.node(1, 10000);
        x.set(0, 0, 1);
        x.set(1, 1, 5000);
        x.see(1, 1);
        x.head(8, 1);
        x.head(8, 5);
        x.set(1, 0, 10);
        heard("just 1 in 1000", x, 0, 0, 500, 1);
        x.set(1, 0, 9);
        Due.is("below 1 in 1000", 1, x.hear(0, 0));
        heard("not below 1 in 5000", x, 1, 0, 5000, 9);
        x.set(1, 0, 2);
        heard("just 1 in 5000", x, 1, 0, 2500, 1);
        x.set(1, 0, 1);
        Due.is("below 1 in 5000", 1, x.hear(1, 0));
        x.set(1, 1, 0);
        heard("0 by 0 is not heard", x, 1, 0, 1, 1);
        x.head(12, 1);
        Due.is("turned about, small is never", 1, x.hear(2, 0));
        x.head(0, 1);
        heard("without the habit", x, 3, 0, 0, 1);
    }

    private static void tires() {
        OddsInCourt x = net();
        x.head(16, 1);
        x.head(18, 2);
        x.see(1, 1);
        x.see(2, 0);
        heard("b alone", x, 0, 0, 4, 9);
        heard("both", x, 1, 0, 4 * 13, 9 * 37);
        heard("of b: not c alone", x, 0, 1, 13, 333);
        x.see(1, -1);
        x.see(1, 1);
        heard("not c first: 26/74 by 9", x, 0, 0, 13, 333);
        // the claim does not count among the first
        x.see(0, 1);
        x.see(2, -1);
        x.see(1, -1);
        x.see(2, 1);
        heard("claim ahead", x, 0, 0, 37, 117);
        // b can't be heard of, yet it counts
        OddsInCourt y = net();
        y.head(17, 1);
        y.set(1, 0, 0);
        y.set(1, 1, 0);
        y.see(1, 1);
        y.see(2, 1);
        heard("one that is not heard counts", y, 0, 0, 1, 1);
    }

    /** A thing that is not heard is not among those heard ahead. */
    private static void notHeard() {
        OddsInCourt x = net();
        x.head(1, 1);
        x.set(1, 0, 0);
        x.set(1, 1, 0);
        x.see(1, 1);
        x.see(2, 1);
        heard("b never is: 0 by 0; c is heard after it, as by itself", x, 0, 0, 1, 1);
        x.set(2, 1, 4);
        heard("c: 4/10 by 1/10", x, 0, 0, 4, 1);
        x.set(1, 1, 10);
        x.see(1, 0);
        heard("P is 0, Q is 1; what is given a and not b has no weight then", x, 0, 0, 0, 1);
    }

    private static void sure() {
        OddsInCourt x = net();
        x.head(0, 1);
        x.chance(0);
        x.set(0, 0, 10);
        Due.is("sure at first", 1, x.hear(0, 0));
        Due.row("the row stays", x, 1, 10);
        x.set(0, 0, 1);
        x.set(1, 0, 0);
        x.see(1, 1);
        Due.is("sure by b", 1, x.hear(0, 0));
        x.see(2, 0);
        Due.is("hears no more", 1, x.hear(0, 0));
        x.set(0, 0, 0);
        heard("never so: nothing is heard", x, 0, 0, 0, 1);
    }

    /** A row of things, each leaning on the one ahead: the k-th has chances in parts of D to the k. */
    private static OddsInCourt chain(int depth, int with, int without) {
        OddsInCourt x = new OddsInCourt();
        x.node(0, 2);
        x.set(0, 0, 1);
        for (int i = 1; i < 8; i++) {
            x.node(1 << (i - 1), depth);
            x.set(i, 1, with);
            x.set(i, 0, without);
        }
        x.head(2, 1);
        x.head(18, 4);
        x.head(0, 1);
        for (int i = 7; i >= 4; i--) {
            x.see(i, 1);
        }
        return x;
    }

    private static void tooGreat() {
        OddsInCourt x = chain(7, 5, 3);
        heard("four things as if alone", x, 0, 0, 101969520029285789L, 100405292834672397L);
        x.see(3, 1);
        Due.is("five are too great", -9, x.hear(0, 0));
        Due.is("errs", -9, x.errs(0, 0));
        Due.is("all orders are", -2, x.order(0, 0));
        Due.row("the row stays", x, 101969520029285789L, 100405292834672397L);
        Due.is("who hears them as they hang together does well", 0, x.errs(2, 0));
        heard("tired after four", x, 1, 0, 101969520029285789L, 100405292834672397L);
        OddsInCourt y = chain(10, 9, 5);
        y.see(3, 1);
        Due.is("in the order seen it is too great", -9, y.hear(0, 0));
        Due.is("in another it is not", 0, y.order(0, 0));
        Due.row("in another it is not", y, 3, 4, 5, 6, 7);
        OddsInCourt z = chain(9, 7, 8);
        z.see(3, 1);
        Due.is("orders that are too great are left aside", 0, z.order(1, 0));
        Due.row("4, 5, 6, 7 would come first", z, 5, 6, 7, 4, 3);
        z.see(3, -1);
        z.set(4, 0, 0);
        z.set(4, 1, 0);
        Due.is("what never is was seen", -2, z.errs(0, 0));
    }

    private static void errs() {
        OddsInCourt x = net();
        x.head(0, 1);
        x.head(1, 1);
        x.head(4, 1);
        x.see(1, 1);
        Due.is("hears as it should", 0, x.errs(0, 0));
        Due.is("without rareness: greater", 1, x.errs(1, 0));
        x.set(0, 0, 9);
        Due.is("without rareness: less", 2, x.errs(1, 0));
        x.set(0, 0, 1);
        x.see(0, 0);
        Due.is("the claim does not matter", 0, x.errs(0, 0));
        x.set(1, 0, 0);
        Due.is("sure as it should be", 0, x.errs(0, 0));
        x.set(1, 0, 10);
        x.see(1, 0);
        Due.is("not b: a is sure, it hears so", 0, x.errs(0, 0));
        x.set(1, 0, 2);
        x.head(8, 99);
        Due.is("no small thing", 0, x.errs(3, 0));
        x.set(0, 0, 10);
        Due.is("sure by right, 1 by 1 without rareness", 2, x.errs(1, 0));
        x.set(1, 1, 10);
        Due.is("no weight", -2, x.errs(0, 0));
        OddsInCourt y = new OddsInCourt();
        y.node(0, 2);
        y.node(1, 5000);
        y.set(0, 0, 1);
        y.set(1, 1, 1);
        y.set(1, 0, 1);
        y.see(1, 1);
        y.head(8, 1);
        Due.is("sure, by right not", 1, y.errs(0, 0));
    }

    private static void order() {
        OddsInCourt x = net();
        x.head(0, 1);
        x.head(4, 1);
        x.head(16, 1);
        x.see(2, 1);
        x.see(1, 1);
        Due.is("all orders are equal", 0, x.order(0, 0));
        Due.row("the first by numbers", x, 1, 2);
        // turned about: b last is 1 less 18/26 by it, c last is 1/9
        Due.is("turned about", 0, x.order(1, 0));
        Due.row("b last", x, 2, 1);
        Due.is("tires: b alone", 0, x.order(2, 0));
        Due.row("b first", x, 1, 2);
        x.see(1, 0);
        Due.is("tires: c alone", 0, x.order(2, 0));
        Due.row("c first", x, 2, 1);
        Due.is("the order seen stays", 0, x.of(2, 3));
        x.see(0, 1);
        Due.is("not the claim", 0, x.order(2, 0));
        Due.row("not the claim", x, 2, 1);
    }

    private static void orderEdges() {
        OddsInCourt x = new OddsInCourt();
        x.node(0, 2);
        x.set(0, 0, 1);
        for (int i = 1; i < 8; i++) {
            x.node(1, 3);
            x.set(i, 0, 1);
            x.set(i, 1, 2);
        }
        x.head(0, 1);
        x.chance(0);
        Due.is("nothing seen", 0, x.order(0, 0));
        Due.row("an empty order", x);
        for (int i = 7; i >= 3; i--) {
            x.see(i, 1);
        }
        Due.is("five", 0, x.order(0, 0));
        Due.row("five", x, 3, 4, 5, 6, 7);
        x.see(0, 1);
        Due.is("five and the claim", 0, x.order(0, 0));
        x.see(1, 1);
        Due.is("six", -1, x.order(0, 0));
        Due.row("the row stays", x, 3, 4, 5, 6, 7);
        Due.is("six by one less", -1, x.order(0, 2));
        Due.is("six, for a claim that is one of the seven", -1, x.order(0, 1));
    }
}
