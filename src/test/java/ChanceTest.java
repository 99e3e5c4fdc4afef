/** Promises 7 to 14: chance, odds, likely, moves, most, worth, cost, need. */
final class ChanceTest {
    private ChanceTest() {
    }

    public static void main(String[] args) {
        chances();
        odds();
        likely();
        moves();
        most();
        worth();
        need();
        noWeight();
        Due.end("ChanceTest");
    }

    /** a: 1 in 4; b leans on a: 3 in 5 with it, 1 in 5 without; c by itself 1 in 2. */
    private static OddsInCourt net() {
        OddsInCourt x = new OddsInCourt();
        x.node(0, 4);
        x.node(1, 5);
        x.node(0, 2);
        x.set(0, 0, 1);
        x.set(1, 1, 3);
        x.set(1, 0, 1);
        x.set(2, 0, 1);
        return x;
    }

    private static void chances() {
        OddsInCourt x = net();
        Due.is("chance(1)", 0, x.chance(1));
        Due.row("3 + 3 of 20", x, 3, 10);
        x.see(1, 0);
        Due.is("chance(0)", 0, x.chance(0));
        Due.row("2 of 14", x, 1, 7);
        Due.is("chance(1)", 0, x.chance(1));
        Due.row("seen not to be", x, 0, 1);
        Due.is("none such", -1, x.chance(3));
        Due.is("below 0", -1, x.chance(-1));
        Due.row("the row stays", x, 0, 1);
        x.force(0, 1);
        Due.is("chance(0)", 0, x.chance(0));
        Due.row("forced", x, 1, 1);
        x.see(1, -1);
        x.chance(1);
        Due.row("by the forced one", x, 3, 5);
        x.force(0, -1);
        x.force(1, 1);
        x.chance(0);
        Due.row("forcing b tells nothing of a", x, 1, 4);
    }

    private static void odds() {
        OddsInCourt x = net();
        Due.is("odds(0)", 0, x.odds(0));
        Due.row("1 by 3", x, 1, 3);
        x.see(1, 1);
        Due.is("odds(0)", 0, x.odds(0));
        Due.row("3 by 3", x, 1, 1);
        Due.is("odds(1)", 1, x.odds(1));
        Due.row("sure: the row stays", x, 1, 1);
        x.see(1, 0);
        Due.is("odds(1)", 0, x.odds(1));
        Due.row("0 by 1", x, 0, 1);
        Due.is("none such", -1, x.odds(3));
        Due.is("below 0", -1, x.odds(-1));
    }

    private static void likely() {
        OddsInCourt x = net();
        Due.is("likely()", 0, x.likely());
        Due.row("12 of 40, the least of equal ones", x, 3, 10);
        x.see(1, 1);
        Due.is("likely()", 2, x.likely());
        Due.row("3 of 12", x, 1, 4);
        x.see(0, 1);
        x.see(2, 1);
        Due.is("all seen", 7, x.likely());
        Due.row("all seen", x, 1, 1);
    }

    private static void moves() {
        OddsInCourt x = net();
        x.see(1, 1);
        x.see(2, 1);
        Due.is("moves(0, 1)", 1, x.moves(0, 1));
        Due.row("1/2 less 1/4", x, 1, 4);
        Due.is("moves(0, 2)", 0, x.moves(0, 2));
        Due.row("c moves nothing", x, 0, 1);
        x.see(1, 0);
        Due.is("below", 2, x.moves(0, 1));
        Due.row("1/7 less 1/4", x, -3, 28);
        Due.is("not seen", -1, x.moves(1, 0));
        Due.is("the claim", -1, x.moves(1, 1));
        Due.is("no such claim", -1, x.moves(3, 1));
        Due.is("no such thing", -1, x.moves(0, 3));
        Due.is("below 0", -1, x.moves(-1, 1));
        Due.is("below 0", -1, x.moves(0, -1));
        x.see(0, 1);
        Due.is("a seen claim", 0, x.moves(0, 1));
        Due.row("a seen claim", x, 0, 1);
    }

    private static void most() {
        OddsInCourt x = net();
        Due.is("nothing seen", -1, x.most(0));
        x.see(0, 1);
        Due.is("nothing else seen", -1, x.most(0));
        x.see(0, -1);
        x.see(2, 1);
        Due.is("all that is seen", 2, x.most(0));
        Due.row("it moves nothing", x, 0, 1);
        x.see(1, 0);
        Due.is("either way", 1, x.most(0));
        Due.row("how far", x, 3, 28);
        Due.is("none such", -1, x.most(3));
        Due.is("below 0", -1, x.most(-1));
        OddsInCourt y = new OddsInCourt();
        y.node(0, 2);
        y.node(1, 3);
        y.node(1, 3);
        y.set(0, 0, 1);
        for (int i = 1; i < 3; i++) {
            y.set(i, 0, 1);
            y.set(i, 1, 2);
        }
        y.see(2, 1);
        y.see(1, 1);
        Due.is("of equal ones the first in order", 2, y.most(0));
        Due.row("4/5 less 2/3", y, 2, 15);
    }

    private static void worth() {
        OddsInCourt x = net();
        Due.is("worth(0, 1)", 0, x.worth(0, 1));
        Due.row("3/10 times 1/4 and 7/10 times 3/28", x, 3, 20);
        Due.is("worth(0, 2)", 0, x.worth(0, 2));
        Due.row("nothing", x, 0, 1);
        x.set(1, 0, 0);
        x.set(1, 1, 0);
        Due.is("an answer without chance", 0, x.worth(0, 1));
        Due.row("counts 0", x, 0, 1);
        Due.is("the claim", -1, x.worth(0, 0));
        Due.is("no such node", -1, x.worth(0, 3));
        Due.is("no such claim", -1, x.worth(3, 0));
        Due.is("below 0", -1, x.worth(-1, 0));
        Due.is("below 0", -1, x.worth(0, -1));
        x.see(2, 1);
        Due.is("seen", -1, x.worth(0, 2));
        Due.is("a seen claim", 0, x.worth(2, 0));
        Due.row("a seen claim", x, 0, 1);
    }

    private static void need() {
        OddsInCourt x = net();
        Due.is("need(0)", 1, x.need(0));
        Due.row("by cost 1", x, 3, 20);
        Due.is("cost(1, 99)", 1, x.cost(1, 99));
        Due.is("cost 100", -1, x.cost(1, 100));
        Due.is("cost 0", -1, x.cost(1, 0));
        Due.is("cost of none", -1, x.cost(3, 1));
        Due.is("cost below 0", -1, x.cost(-1, 1));
        Due.is("it was 99", 99, x.cost(1, 6));
        Due.is("need(0)", 1, x.need(0));
        Due.row("by cost 6", x, 1, 40);
        Due.is("of equal ones the first", 0, x.need(2));
        Due.row("all 0", x, 0, 1);
        x.force(1, 1);
        Due.is("not a forced one", 2, x.need(0));
        x.see(2, 0);
        Due.is("nothing to look for", -1, x.need(0));
        Due.is("none such", -1, x.need(3));
        Due.is("below 0", -1, x.need(-1));
        OddsInCourt y = net();
        y.node(1, 5);
        y.set(3, 1, 5);
        y.cost(3, 4);
        Due.is("worth 3/8 for 4 is less than 3/20 for 1", 1, y.need(0));
        y.cost(3, 2);
        Due.is("for 2 it is more", 3, y.need(0));
        Due.row("3/8 by 2", y, 3, 16);
    }

    private static void noWeight() {
        OddsInCourt x = net();
        x.chance(0);
        x.set(0, 0, 0);
        x.see(0, 1);
        Due.is("chance", -2, x.chance(1));
        Due.is("odds", -2, x.odds(1));
        Due.is("likely", -2, x.likely());
        Due.is("moves", -2, x.moves(1, 0));
        Due.is("most", -2, x.most(1));
        Due.is("worth", -2, x.worth(1, 2));
        Due.is("need", -2, x.need(1));
        Due.row("the row stays", x, 1, 4);
        Due.is("none such is asked first", -1, x.chance(3));
        x.see(1, 1);
        x.see(2, 1);
        Due.is("need: none such is asked first", -1, x.need(1));
    }
}
