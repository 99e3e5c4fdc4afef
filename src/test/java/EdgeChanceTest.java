/** Promises 7 to 14: each sentence that names an edge. */
final class EdgeChanceTest {
    private EdgeChanceTest() {
    }

    public static void main(String[] args) {
        chance();
        odds();
        likely();
        moves();
        movesRefused();
        most();
        mostRefused();
        worth();
        worthRefused();
        cost();
        need();
        needRefused();
        greatest();
        Due.end("EdgeChanceTest");
    }

    private static OddsInCourt nothing() {
        return new OddsInCourt();
    }

    private static void chance() {
        Same.tells("P7 chance: the first NODE", 0, Same::rich, x -> x.chance(0), 2, 11);
        Same.tells("P7 chance: SEEN not to be: 0 by 1", 0, Same::rich, x -> x.chance(1), 0, 1);
        Same.tells("P7 chance: SEEN to be: 1 by 1", 0, Same::rich, x -> x.chance(2), 1, 1);
        Same.tells("P7 chance: the last NODE, FORCED so", 0, Same::rich, x -> x.chance(3), 1, 1);
        Same.unchanged("P7 chance: NOW has no WEIGHT", -2, Same::weightless, x -> x.chance(0));
        Same.unchanged("P7 chance: of the one that has none", -2, Same::weightless, x -> x.chance(3));
        Same.refused("P7 chance: none such", Same::rich, x -> x.chance(4));
        Same.refused("P7 chance: below 0", Same::rich, x -> x.chance(-1));
        Same.refused("P7 chance: far off", Same::rich, x -> x.chance(Integer.MAX_VALUE));
        Same.refused("P7 chance: none such, NOW has no WEIGHT", Same::weightless, x -> x.chance(4));
        Same.refused("P7 chance: no NODES", EdgeChanceTest::nothing, x -> x.chance(0));
    }

    private static void odds() {
        Same.tells("P8 odds: the first NODE", 0, Same::rich, x -> x.odds(0), 2, 9);
        Same.tells("P8 odds: never so: 0 by 1", 0, Same::rich, x -> x.odds(1), 0, 1);
        Same.unchanged("P8 odds: SURE, SEEN", 1, Same::rich, x -> x.odds(2));
        Same.unchanged("P8 odds: SURE, FORCED", 1, Same::rich, x -> x.odds(3));
        Same.unchanged("P8 odds: NOW has no WEIGHT", -2, Same::weightless, x -> x.odds(0));
        Same.unchanged("P8 odds: of the one that has none", -2, Same::weightless, x -> x.odds(3));
        Same.refused("P8 odds: none such", Same::rich, x -> x.odds(4));
        Same.refused("P8 odds: below 0", Same::rich, x -> x.odds(-1));
        Same.refused("P8 odds: none such, NOW has no WEIGHT", Same::weightless, x -> x.odds(4));
        Same.refused("P8 odds: no NODES", EdgeChanceTest::nothing, x -> x.odds(0));
    }

    /** Three nodes, each as often so as not: all WAYS are equal. */
    private static OddsInCourt flat() {
        OddsInCourt x = new OddsInCourt();
        for (int i = 0; i < 3; i++) {
            x.node(0, 2);
            x.set(i, 0, 1);
        }
        return x;
    }

    private static OddsInCourt flatSeen() {
        OddsInCourt x = flat();
        x.see(1, 1);
        return x;
    }

    private static void likely() {
        Same.tells("P9 likely: of equal ones the least", 0, EdgeChanceTest::flat, x -> x.likely(), 1, 8);
        Same.tells("P9 likely: the least that is as NOW", 2, EdgeChanceTest::flatSeen, x -> x.likely(), 1, 4);
        Same.tells("P9 likely: the greatest of all that are as NOW", 12, Same::rich, x -> x.likely(), 9, 11);
        Same.unchanged("P9 likely: NOW has no WEIGHT", -2, Same::weightless, x -> x.likely());
        Same.tells("P9 likely: no NODES", 0, EdgeChanceTest::nothing, x -> x.likely(), 1, 1);
    }

    private static OddsInCourt claimSeen() {
        OddsInCourt x = Same.rich();
        x.see(0, 1);
        return x;
    }

    private static void moves() {
        Same.tells("P10 moves: above 0", 1, Same::rich, x -> x.moves(0, 2), 9, 110);
        Same.tells("P10 moves: below, the upper number too", 2, Same::rich, x -> x.moves(0, 1), -45, 176);
        Same.tells("P10 moves: 0 by 1", 0, Same::rich, x -> x.moves(3, 2), 0, 1);
        Same.tells("P10 moves: a CLAIM that is SEEN", 0, EdgeChanceTest::claimSeen, x -> x.moves(0, 2), 0, 1);
        Same.tells("P10 moves: above 0, the upper number 1", 1, () -> quarter(1), x -> x.moves(0, 1), 1, 4);
        Same.tells("P10 moves: below 0, the upper number -1", 2, () -> quarter(0), x -> x.moves(0, 1), -1, 4);
        Same.unchanged("P10 moves: NOW has no WEIGHT", -2, Same::weightless, x -> x.moves(0, 1));
        Same.unchanged("P10 moves: though without it NOW had", -2, Same::weightless, x -> x.moves(0, 3));
    }

    /** a 1 in 2; b, SEEN as told, 3 in 4 with it, 1 in 4 without. */
    private static OddsInCourt quarter(int state) {
        OddsInCourt x = new OddsInCourt();
        x.node(0, 2);
        x.node(1, 4);
        x.set(0, 0, 1);
        x.set(1, 1, 3);
        x.set(1, 0, 1);
        x.see(1, state);
        return x;
    }

    private static void movesRefused() {
        Same.refused("P10 moves: it is not SEEN", Same::rich, x -> x.moves(1, 0));
        Same.refused("P10 moves: it is FORCED, not SEEN", Same::rich, x -> x.moves(0, 3));
        Same.refused("P10 moves: it is the CLAIM", Same::rich, x -> x.moves(2, 2));
        Same.refused("P10 moves: it is the CLAIM, not SEEN", Same::rich, x -> x.moves(0, 0));
        Same.refused("P10 moves: no such CLAIM", Same::rich, x -> x.moves(4, 2));
        Same.refused("P10 moves: a CLAIM below 0", Same::rich, x -> x.moves(-1, 2));
        Same.refused("P10 moves: no such thing", Same::rich, x -> x.moves(0, 4));
        Same.refused("P10 moves: a thing below 0", Same::rich, x -> x.moves(0, -1));
        Same.refused("P10 moves: a far-off thing", Same::rich, x -> x.moves(0, 34));
        Same.refused("P10 moves: no NODES", EdgeChanceTest::nothing, x -> x.moves(0, 0));
    }

    /** a 1 in 2, and two findings alike that lean on it, SEEN c first. */
    private static OddsInCourt twins() {
        OddsInCourt x = new OddsInCourt();
        x.node(0, 2);
        x.node(1, 3);
        x.node(1, 3);
        x.set(0, 0, 1);
        for (int i = 1; i < 3; i++) {
            x.set(i, 0, 1);
            x.set(i, 1, 2);
        }
        x.see(2, 1);
        x.see(1, 1);
        return x;
    }

    private static OddsInCourt twinsTurned() {
        OddsInCourt x = twins();
        x.see(2, -1);
        x.see(2, 1);
        return x;
    }

    /** b SEEN so, c SEEN not: want of b moves a down as far as want of c moves it up. */
    private static OddsInCourt against() {
        OddsInCourt x = twins();
        x.see(1, 0);
        return x;
    }

    private static OddsInCourt oneThing() {
        OddsInCourt x = flat();
        x.see(1, 1);
        return x;
    }

    private static OddsInCourt claimAlone() {
        OddsInCourt x = flat();
        x.see(0, 1);
        return x;
    }

    private static void most() {
        Same.tells("P11 most: farthest, either way", 1, Same::rich, x -> x.most(0), 45, 176);
        Same.tells("P11 most: of equal ones the first in order", 2, EdgeChanceTest::twins, x -> x.most(0), 2, 15);
        Same.tells("P11 most: by order, not by number", 1, EdgeChanceTest::twinsTurned, x -> x.most(0), 2, 15);
        Same.tells("P11 most: equal, either way", 2, EdgeChanceTest::against, x -> x.most(0), 1, 6);
        Same.tells("P11 most: the one thing, though it moves nothing", 1, EdgeChanceTest::oneThing,
            x -> x.most(0), 0, 1);
        Same.tells("P11 most: the CLAIM is SEEN too", 2, EdgeChanceTest::claimSeen, x -> x.most(0), 0, 1);
        Same.tells("P11 most: not one that is SEEN no more", 2, () -> {
            OddsInCourt x = twins();
            x.set(1, 1, 3);
            x.see(1, -1);
            return x;
        }, x -> x.most(0), 1, 6);
        OddsInCourt ten = new OddsInCourt();
        for (int i = 0; i < 10; i++) {
            ten.node(i == 9 ? 1 : 0, 4);
            ten.set(i, 0, 1);
            ten.see(i, 1);
        }
        ten.set(9, 1, 3);
        Due.is("P11 most: ten SEEN, one of them the CLAIM", 1, ten.most(0));
        Due.row("P11 most: ten SEEN, one of them the CLAIM", ten, 0, 1);
        ten.see(0, -1);
        Due.is("P11 most: the last of nine", 9, ten.most(0));
        Due.row("P11 most: 1/2 less 1/4", ten, 1, 4);
        Same.unchanged("P11 most: NOW has no WEIGHT", -2, Same::weightless, x -> x.most(0));
    }

    private static void mostRefused() {
        Same.refused("P11 most: nothing is SEEN", EdgeChanceTest::flat, x -> x.most(0));
        Same.refused("P11 most: nothing else is SEEN", EdgeChanceTest::claimAlone, x -> x.most(0));
        Same.refused("P11 most: none such", Same::rich, x -> x.most(4));
        Same.refused("P11 most: below 0", Same::rich, x -> x.most(-1));
        Same.refused("P11 most: none such, NOW has no WEIGHT", Same::weightless, x -> x.most(4));
        Same.refused("P11 most: no NODES", EdgeChanceTest::nothing, x -> x.most(0));
    }

    /** b is never so, c always, whatever a is; d is a. */
    private static OddsInCourt answers() {
        OddsInCourt x = new OddsInCourt();
        x.node(0, 4);
        x.node(1, 2);
        x.node(1, 2);
        x.node(1, 1);
        x.set(0, 0, 1);
        x.set(2, 0, 2);
        x.set(2, 1, 2);
        x.set(3, 1, 1);
        return x;
    }

    private static OddsInCourt answersSeen() {
        OddsInCourt x = answers();
        x.see(0, 1);
        return x;
    }

    private static void worth() {
        Same.tells("P12 worth: an answer (so) without CHANCE counts 0", 0, EdgeChanceTest::answers,
            x -> x.worth(0, 1), 0, 1);
        Same.tells("P12 worth: an answer (not) without CHANCE counts 0", 0, EdgeChanceTest::answers,
            x -> x.worth(0, 2), 0, 1);
        // 1/4 times 3/4 and 3/4 times 1/4
        Same.tells("P12 worth: over both answers", 0, EdgeChanceTest::answers, x -> x.worth(0, 3), 3, 8);
        Same.tells("P12 worth: a CLAIM that is SEEN", 0, EdgeChanceTest::answersSeen, x -> x.worth(0, 3), 0, 1);
        Same.tells("P12 worth: a FORCED NODE", 0, Same::rich, x -> x.worth(0, 3), 0, 1);
        Same.unchanged("P12 worth: NOW has no WEIGHT", -2, Same::weightless, x -> x.worth(1, 0));
    }

    private static void worthRefused() {
        Same.refused("P12 worth: SEEN", Same::rich, x -> x.worth(0, 2));
        Same.refused("P12 worth: SEEN not to be", Same::rich, x -> x.worth(0, 1));
        Same.refused("P12 worth: the CLAIM", Same::rich, x -> x.worth(0, 0));
        Same.refused("P12 worth: no such NODE", Same::rich, x -> x.worth(0, 4));
        Same.refused("P12 worth: a NODE below 0", Same::rich, x -> x.worth(0, -1));
        Same.refused("P12 worth: no such CLAIM", Same::rich, x -> x.worth(4, 0));
        Same.refused("P12 worth: a CLAIM below 0", Same::rich, x -> x.worth(-1, 0));
        Same.refused("P12 worth: none such, NOW has no WEIGHT", Same::weightless, x -> x.worth(4, 0));
        Same.refused("P12 worth: no NODES", EdgeChanceTest::nothing, x -> x.worth(0, 1));
    }

    private static void cost() {
        OddsInCourt x = Same.rich();
        Due.is("P13 cost: 1, the least", 3, x.cost(1, 1));
        Due.is("P13 cost: 99, the greatest", 1, x.cost(1, 99));
        Due.is("P13 cost: what it was", 99, x.cost(1, 5));
        Due.is("P13 cost: what it became", 5, x.of(1, 4));
        Due.is("P13 cost: at first 1", 1, x.cost(0, 2));
        Due.is("P13 cost: of the last NODE", 1, x.cost(3, 2));
        Due.is("P13 cost: the ROW stays", 4, x.count(7));
        Same.refused("P13 cost: 0", Same::rich, y -> y.cost(1, 0));
        Same.refused("P13 cost: 100", Same::rich, y -> y.cost(1, 100));
        Same.refused("P13 cost: below 0", Same::rich, y -> y.cost(1, -1));
        Same.refused("P13 cost: far above", Same::rich, y -> y.cost(1, Integer.MAX_VALUE));
        Same.refused("P13 cost: none such", Same::rich, y -> y.cost(4, 1));
        Same.refused("P13 cost: NODE below 0", Same::rich, y -> y.cost(-1, 1));
        Same.refused("P13 cost: no NODES", EdgeChanceTest::nothing, y -> y.cost(0, 1));
    }

    private static OddsInCourt twinsUnseen() {
        OddsInCourt x = twins();
        x.see(1, -1);
        x.see(2, -1);
        return x;
    }

    private static OddsInCourt twinsDear() {
        OddsInCourt x = twinsUnseen();
        x.cost(1, 2);
        return x;
    }

    private static OddsInCourt answersForced() {
        OddsInCourt x = answers();
        x.force(3, 1);
        return x;
    }

    private static OddsInCourt answersWeightless() {
        OddsInCourt x = answers();
        x.see(1, 1);
        return x;
    }

    private static void need() {
        // both findings: a is 2/3 or 1/3 by them: 1/6 at the mean
        Same.tells("P14 need: of equal ones the first", 1, EdgeChanceTest::twinsUnseen, x -> x.need(0), 1, 6);
        Same.tells("P14 need: by COST", 2, EdgeChanceTest::twinsDear, x -> x.need(0), 1, 6);
        Same.tells("P14 need: not the CLAIM itself", 0, EdgeChanceTest::twinsUnseen, x -> x.need(1), 1, 6);
        Same.tells("P14 need: not FORCED", 1, EdgeChanceTest::answersForced, x -> x.need(0), 0, 1);
        Same.tells("P14 need: one that tells nothing, if there is no other", 0, Same::rich, x -> x.need(3), 0, 1);
        Same.tells("P14 need: a SEEN CLAIM", 1, EdgeChanceTest::answersSeen, x -> x.need(0), 0, 1);
        Same.unchanged("P14 need: NOW has no WEIGHT", -2, EdgeChanceTest::answersWeightless, x -> x.need(0));
        Same.unchanged("P14 need: one is left, NOW has no WEIGHT", -2, Same::weightless, x -> x.need(1));
    }

    private static void needRefused() {
        Same.refused("P14 need: all others SEEN or FORCED", Same::rich, x -> x.need(0));
        Same.refused("P14 need: none such, asked first", Same::weightless, x -> x.need(0));
        Same.refused("P14 need: no such CLAIM", Same::rich, x -> x.need(4));
        Same.refused("P14 need: a CLAIM below 0", Same::rich, x -> x.need(-1));
        Same.refused("P14 need: no such CLAIM, asked first", Same::weightless, x -> x.need(4));
        Same.refused("P14 need: the CLAIM alone is there", EdgeChanceTest::single, x -> x.need(0));
    }

    private static OddsInCourt single() {
        OddsInCourt x = new OddsInCourt();
        x.node(0, 3);
        x.set(0, 0, 1);
        return x;
    }

    /** Two nodes whose DEPTHS go to 10 to the 8: the greatest numbers that moves() and worth() meet. */
    private static OddsInCourt vast() {
        OddsInCourt x = new OddsInCourt();
        x.node(0, 10000);
        x.node(1, 10000);
        x.set(0, 0, 5001);
        x.set(1, 0, 4999);
        x.set(1, 1, 5003);
        return x;
    }

    private static OddsInCourt vastSeen() {
        OddsInCourt x = vast();
        x.see(1, 1);
        x.cost(1, 99);
        return x;
    }

    private static OddsInCourt vastDear() {
        OddsInCourt x = vast();
        x.cost(1, 99);
        return x;
    }

    private static void greatest() {
        // b: 5001 * 5003 + 4999 * 4999 = 25020003 + 24990001 = 50010004 of 10^8
        Same.tells("P10 moves: of DEPTHS of 10 to the 8", 1, EdgeChanceTest::vastSeen, x -> x.moves(0, 1),
            24999999L, 125025010000L);
        // 2 * |25020003 * 10^8 - 50010000 * 50010004| by 10^16
        Same.tells("P12 worth: of DEPTHS of 10 to the 8", 0, EdgeChanceTest::vast, x -> x.worth(0, 1),
            24999999L, 125000000000L);
        Same.tells("P14 need: the same by 99", 1, EdgeChanceTest::vastDear, x -> x.need(0),
            8333333L, 4125000000000L);
    }
}
