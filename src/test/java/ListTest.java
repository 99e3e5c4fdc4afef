/** Promises 33 to 35: list, many, test. */
final class ListTest {
    private ListTest() {
    }

    public static void main(String[] args) {
        list();
        many();
        again();
        out();
        tooGreat();
        wrong();
        Due.end("ListTest");
    }

    private static void list() {
        OddsInCourt x = new OddsInCourt();
        Due.is("list", 0, x.list(1000, 100, 1, 100));
        Due.row("1 by (1 and 9)", x, 1, 10);
        Due.is("all on the list", 0, x.list(100, 100, 1, 2));
        Due.row("all on the list", x, 1, 1);
        Due.is("everybody has it", 0, x.list(10, 1, 7, 7));
        Due.row("everybody has it", x, 1, 10);
        Due.is("the greatest", 0, x.list(100000000, 1, 1000000, 1000000));
        Due.row("the greatest", x, 1, 100000000);
        Due.is("many", 0, x.list(100000000, 1, 999999, 1000000));
        Due.row("10^6 by (10^6 and 99999999 times 999999)", x, 1000000, 99999900000001L);
        Due.is("the longest list", 0, x.list(1000000, 1000000, 1, 1));
        int[][] wrong = {{99, 100, 1, 2}, {100000001, 1, 1, 2}, {10, 0, 1, 2}, {2000000, 1000001, 1, 2},
            {10, 1, 0, 2}, {10, 1, 3, 2}, {10, 1, 1, 1000001}, {10, 1, 1, 0}, {10, 1, -1, -1}, {-1, -1, 1, 2}};
        for (int[] w : wrong) {
            Due.is("list(" + w[0] + ", " + w[1] + ", " + w[2] + ", " + w[3] + ")", -1,
                x.list(w[0], w[1], w[2], w[3]));
        }
        Due.row("the row stays", x, 1, 1);
    }

    private static void many() {
        OddsInCourt x = new OddsInCourt();
        Due.is("everybody", 1, x.many(5, 5));
        Due.is("just half", 1, x.many(1, 2));
        Due.is("1 in 3", 2, x.many(1, 3));
        Due.is("a birthday", 253, x.many(1, 365));
        Due.is("1 in 100000, fewer than by uncut parts", 69310, x.many(1, 100000));
        Due.is("the most", 100000, x.many(1, 144285));
        Due.is("just more", -2, x.many(1, 144286));
        Due.is("more", -2, x.many(1, 1000000));
        Due.is("a 0", -1, x.many(0, 2));
        Due.is("a above b", -1, x.many(3, 2));
        Due.is("b too great", -1, x.many(1, 1000001));
        Due.is("both below 0", -1, x.many(-2, -1));
    }

    /** a 1 in 10; b a test of it: 9 in 10 with it, 3 in 10 without; c leans on both, d on none. */
    private static OddsInCourt net() {
        OddsInCourt x = new OddsInCourt();
        x.node(0, 10);
        x.node(1, 10);
        x.node(3, 10);
        x.node(0, 10);
        x.set(0, 0, 1);
        x.set(1, 1, 9);
        x.set(1, 0, 3);
        x.set(2, 1, 4);
        x.set(2, 0, 2);
        x.set(2, 3, 4);
        x.set(2, 2, 2);
        return x;
    }

    private static void again() {
        OddsInCourt x = net();
        Due.is("once", 0, x.test(1, 1, 0));
        Due.row("odds 1/9 times 3", x, 1, 4);
        Due.is("three times", 0, x.test(1, 3, 0));
        Due.row("odds 1/9 times 27", x, 3, 4);
        Due.is("six times", 0, x.test(1, 6, 0));
        Due.row("odds 1/9 times 729", x, 81, 82);
        Due.is("of one make", 0, x.test(1, 6, 1));
        Due.row("of one make", x, 1, 4);
        x.see(2, 1);
        Due.is("now: odds 2/9", 0, x.test(1, 2, 0));
        Due.row("odds 2", x, 2, 3);
    }

    private static void out() {
        OddsInCourt x = net();
        x.set(1, 1, 0);
        Due.is("never so with the claim", 0, x.test(1, 2, 0));
        Due.row("the claim is out", x, 0, 1);
        x.set(1, 0, 0);
        Due.is("both out", -2, x.test(1, 2, 0));
        x.set(1, 1, 5);
        Due.is("never so without it", 0, x.test(1, 2, 1));
        Due.row("it is sure", x, 1, 1);
        x.set(0, 0, 0);
        Due.is("the claim never is, nor else the test", -2, x.test(1, 1, 0));
        x.set(1, 0, 5);
        Due.is("the claim never is", 0, x.test(1, 1, 0));
        Due.row("the claim never is", x, 0, 1);
        x.set(0, 0, 10);
        Due.is("the claim always is", 0, x.test(1, 1, 0));
        Due.row("the claim always is", x, 1, 1);
        x.set(2, 1, 0);
        x.set(2, 3, 0);
        x.see(2, 1);
        Due.is("now has no weight", -2, x.test(1, 1, 0));
        Due.row("the row stays", x, 1, 1);
    }

    private static void tooGreat() {
        OddsInCourt x = new OddsInCourt();
        x.node(0, 2);
        x.node(1, 10000);
        x.set(0, 0, 1);
        x.set(1, 1, 10000);
        x.set(1, 0, 1);
        Due.is("10^16", 0, x.test(1, 4, 0));
        Due.row("10^16", x, 10000000000000000L, 10000000000000001L);
        Due.is("10^20", -9, x.test(1, 5, 0));
        Due.is("as if once", 0, x.test(1, 5, 1));
        Due.row("as if once", x, 10000, 10001);
        x.set(1, 1, 1000);
        Due.is("odds of 10^18 are not above, but odds and 1 are", -9, x.test(1, 6, 0));
        x.set(1, 1, 999);
        Due.is("999^6", 0, x.test(1, 6, 0));
        Due.row("999^6", x, 994014980014994001L, 994014980014994002L);
        x.set(1, 1, 1);
        x.set(1, 0, 1000);
        Due.is("the other way", -9, x.test(1, 6, 0));
    }

    private static void wrong() {
        OddsInCourt x = net();
        Due.is("leans on none", -1, x.test(0, 1, 0));
        Due.is("leans on two", -1, x.test(2, 1, 0));
        Due.is("no such node", -1, x.test(4, 1, 0));
        Due.is("node below 0", -1, x.test(-1, 1, 0));
        Due.is("no times", -1, x.test(1, 0, 0));
        Due.is("seven times", -1, x.test(1, 7, 0));
        Due.is("make 2", -1, x.test(1, 1, 2));
        Due.is("make -1", -1, x.test(1, 1, -1));
        for (int node = 0; node < 2; node++) {
            x.see(node, 1);
            Due.is("seen", -1, x.test(1, 1, 0));
            x.see(node, -1);
            x.force(node, 0);
            Due.is("forced", -1, x.test(1, 1, 0));
            x.force(node, -1);
        }
        Due.is("none told", 0, x.count(7));
    }
}
