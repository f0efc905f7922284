/** Promises 5 to 7, 21 to 23, 26, 35 and 37: rolling, what is borne, sevens, the robber, and the turns. */
final class TurnTest {
    private TurnTest() {
    }

    public static void main(String[] args) {
        rollBears();
        rollRefused();
        robbersHexagonBearsNothing();
        hexagonThatTheRobberLeft();
        shortBankForTwo();
        shortBankForOne();
        shortBankWithCities();
        justEnoughInTheBank();
        sevenWithoutDiscards();
        sevenWithDiscards();
        discardRefused();
        robTakesByDraw();
        robWithoutVictim();
        robRefused();
        turnsGoRound();
        Check.end();
    }

    private static void rollBears() {
        Hexstead x = Games.placed();
        x.deal(0, 32000);
        Check.same("37: two houses at one hexagon", x.wouldGet(0, Hexstead.BRICK, 6), 2);
        Check.same("37: another sum", x.wouldGet(0, Hexstead.BRICK, 5), 0);
        Check.same("37: another good", x.wouldGet(0, Hexstead.WOOD, 6), 0);
        Check.same("37: another player", x.wouldGet(1, Hexstead.WOOD, 5), 1);
        Check.same("37: the sum 7", x.wouldGet(0, Hexstead.BRICK, 7), 0);
        Check.same("5: then ACT", x.roll(2, 4), Hexstead.ACT);
        Check.same("5: two houses", x.hand(0, Hexstead.BRICK), 3);
        Check.same("5: the bank gives them", x.hand(3, Hexstead.BRICK), 9);
        Check.same("5: to nobody else", Games.total(x, 1) + Games.total(x, 2), 2);
        x.city(7);
        Check.same("37: a house and a city", x.wouldGet(0, Hexstead.BRICK, 6), 3);
        x.endTurn();
        x.roll(5, 1);
        Check.same("5: a house and a city, whoever rolls", x.hand(0, Hexstead.BRICK), 6);
        x.endTurn();
        x.roll(6, 6);
        Check.same("5: 12 bears nothing", Games.total(x, 0) + Games.total(x, 1) + Games.total(x, 2), 8);
        x.endTurn();
        x.roll(6, 2);
        Check.same("5: 8 bears WOOD at the corner 0", Games.goods(x, 0), 16);
        x.endTurn();
        x.roll(3, 1);
        Check.same("5: 4 bears two GRAIN to 2", Games.goods(x, 2), 3000);
        x.endTurn();
        x.roll(6, 3);
        Check.same("5: 9 bears two WOOL to 1", Games.goods(x, 1), 300);
        x.endTurn();
        x.roll(6, 4);
        Check.same("5: 10 bears ORE to 2", Games.goods(x, 2), 13000);
    }

    private static void rollRefused() {
        Hexstead x = Games.placed();
        int[] wrong = {0, 7, -1, Integer.MIN_VALUE, Integer.MAX_VALUE};
        for (int die : wrong) {
            Check.refused("5: one " + die, x, Check.ARGUMENT, () -> x.roll(die, 3));
            Check.refused("5: other " + die, x, Check.ARGUMENT, () -> x.roll(3, die));
        }
        x.roll(1, 1);
        Check.refused("5: twice", x, Check.STATE, () -> x.roll(1, 1));
        Check.refused("5: argument ahead of state", x, Check.ARGUMENT, () -> x.roll(0, 1));
        Hexstead y = new Hexstead();
        Check.refused("5: they still place", y, Check.STATE, () -> y.roll(1, 1));
        y.place(0, 0);
        Check.same("5: a refused roll is none", y.deal(0, 1), 1);
    }

    private static void robbersHexagonBearsNothing() {
        Hexstead x = Games.placed();
        x.roll(3, 4);
        x.rob(1, Hexstead.NONE, 0);
        x.endTurn();
        Check.same("37: the robber is there", x.wouldGet(0, Hexstead.BRICK, 6), 0);
        x.roll(3, 3);
        Check.same("5: the robber is there", x.hand(0, Hexstead.BRICK), 1);
        Check.same("35: the robber", x.robber(), 1);
    }

    private static void hexagonThatTheRobberLeft() {
        Hexstead x = Games.deserts();
        x.layHex(0, Hexstead.GRAIN, 6);
        x.place(0, 6);
        x.place(2, 8);
        x.place(4, 10);
        x.place(16, 21);
        x.place(13, 18);
        x.place(7, 12);
        Check.same("37: the robber is there", x.wouldGet(0, Hexstead.GRAIN, 6), 0);
        x.roll(1, 6);
        x.rob(1, Hexstead.NONE, 0);
        Check.same("37: the robber has left", x.wouldGet(0, Hexstead.GRAIN, 6), 1);
        x.endTurn();
        x.roll(3, 3);
        Check.same("5: the hexagon 0 bears", x.hand(0, Hexstead.GRAIN), 1);
        Check.same("5: for all", x.hand(3, Hexstead.GRAIN), 9);
    }

    /** The hexagons 1 and 2 bear ORE at 6; 0 has a house at the one, 1 at the other, both have 3 WOOD. */
    private static Hexstead twoAtTheSameNumber() {
        Hexstead x = Games.deserts();
        x.layHex(1, Hexstead.ORE, 6);
        x.layHex(2, Hexstead.ORE, 6);
        x.place(7, 12);
        x.place(11, 16);
        x.place(13, 18);
        x.place(16, 21);
        x.place(19, 24);
        x.place(22, 27);
        x.deal(0, 30);
        x.deal(1, 30);
        x.deal(2, 90000);
        return x;
    }

    private static void shortBankForTwo() {
        Hexstead x = twoAtTheSameNumber();
        x.deal(2, 20000);
        Check.same("37: the bank has one", x.hand(3, Hexstead.ORE), 1);
        Check.same("37: nobody gets any, 0", x.wouldGet(0, Hexstead.ORE, 6), 0);
        Check.same("37: nobody gets any, 1", x.wouldGet(1, Hexstead.ORE, 6), 0);
        x.roll(1, 5);
        Check.same("5: nobody gets any, 0", x.hand(0, Hexstead.ORE), 0);
        Check.same("5: nobody gets any, 1", x.hand(1, Hexstead.ORE), 0);
    }

    private static void justEnoughInTheBank() {
        Hexstead x = twoAtTheSameNumber();
        x.deal(2, 10000);
        Check.same("37: the bank has two", x.hand(3, Hexstead.ORE), 2);
        Check.same("37: both get one, 0", x.wouldGet(0, Hexstead.ORE, 6), 1);
        Check.same("37: both get one, 1", x.wouldGet(1, Hexstead.ORE, 6), 1);
        x.roll(2, 4);
        Check.same("5: both get one, 0", x.hand(0, Hexstead.ORE), 1);
        Check.same("5: both get one, 1", x.hand(1, Hexstead.ORE), 1);
        Check.same("5: the bank has none", x.hand(3, Hexstead.ORE), 0);
    }

    private static void shortBankForOne() {
        Hexstead x = Games.placed();
        x.deal(2, 9);
        x.deal(1, 1);
        Check.same("37: the bank has one", x.hand(3, Hexstead.BRICK), 1);
        Check.same("37: one player gets what there is", x.wouldGet(0, Hexstead.BRICK, 6), 1);
        x.roll(3, 3);
        Check.same("5: one player gets what there is", x.hand(0, Hexstead.BRICK), 2);
        Check.same("37: the bank has none", x.wouldGet(0, Hexstead.BRICK, 6), 0);
        x.endTurn();
        x.roll(3, 3);
        Check.same("5: the bank has none", x.hand(0, Hexstead.BRICK), 2);
        Check.same("24: never below 0", x.hand(3, Hexstead.BRICK), 0);
    }

    private static void shortBankWithCities() {
        Hexstead x = twoAtTheSameNumber();
        x.deal(0, 32000);
        x.roll(1, 1);
        x.city(7);
        Check.same("37: two for the city", x.wouldGet(0, Hexstead.ORE, 6), 2);
        Check.same("37: one for the house", x.wouldGet(1, Hexstead.ORE, 6), 1);
        x.swap(Hexstead.WOOD, Hexstead.ORE);
        Check.same("37: two are left for three", x.hand(3, Hexstead.ORE), 2);
        Check.same("37: not even for the city", x.wouldGet(0, Hexstead.ORE, 6), 0);
        Check.same("37: nor for the house", x.wouldGet(1, Hexstead.ORE, 6), 0);
        x.endTurn();
        x.roll(3, 3);
        Check.same("5: nobody gets any", x.hand(0, Hexstead.ORE) + x.hand(1, Hexstead.ORE), 1);
    }

    private static void sevenWithoutDiscards() {
        Hexstead x = Games.placed();
        x.deal(0, 11310);
        Check.same("5: 7 goods", Games.total(x, 0), 7);
        Check.same("5: then ROB", x.roll(1, 6), Hexstead.ROB);
        Check.same("22: ROB", x.phase(), Hexstead.ROB);
        Check.same("26: nothing is due", x.due(0), 0);
        Check.refused("6: nothing is due", x, Check.STATE, () -> x.discard(0, 0));
    }

    private static void sevenWithDiscards() {
        Hexstead x = Games.placedOnDeserts();
        x.deal(0, 54321);
        x.deal(1, 7);
        x.deal(2, 80);
        Check.same("5: then DISCARD", x.roll(4, 3), Hexstead.DISCARD);
        Check.same("26: of 15", x.due(0), 7);
        Check.same("26: of 7", x.due(1), 0);
        Check.same("26: of 8", x.due(2), 4);
        Check.same("6: 0 is due yet", x.discard(2, 40), Hexstead.DISCARD);
        Check.same("26: 2 has done so", x.due(2), 0);
        Check.same("26: 0 has not", x.due(0), 7);
        Check.same("6: from the hand", x.hand(2, Hexstead.WOOD), 4);
        Check.same("6: into the bank", x.hand(3, Hexstead.WOOD), 6);
        Check.refused("6: not twice", x, Check.STATE, () -> x.discard(2, 40));
        Check.same("6: then ROB", x.discard(0, 2221), Hexstead.ROB);
        Check.same("6: what is left", Games.goods(x, 0), 52100);
        Check.same("23: the turn is as it was", x.turn(), 0);
        Check.same("7: the robber moves", x.rob(3, 1, 6), Hexstead.BRICK);
        Check.same("22: then ACT", x.phase(), Hexstead.ACT);
    }

    private static void discardRefused() {
        Hexstead x = Games.placedOnDeserts();
        x.deal(1, 900);
        Check.refused("6: nothing is due", x, Check.STATE, () -> x.discard(1, 400));
        x.roll(6, 1);
        Check.refused("6: player 3", x, Check.INDEX, () -> x.discard(3, 100000));
        Check.refused("6: player -1", x, Check.INDEX, () -> x.discard(-1, 400));
        Check.refused("6: goods -1", x, Check.ARGUMENT, () -> x.discard(1, -1));
        Check.refused("6: goods 100000", x, Check.ARGUMENT, () -> x.discard(1, 100000));
        Check.refused("6: argument ahead of state", x, Check.ARGUMENT, () -> x.discard(0, 100000));
        Check.refused("6: nothing is due from 0", x, Check.STATE, () -> x.discard(0, 0));
        Check.refused("6: too few", x, Check.STATE, () -> x.discard(1, 300));
        Check.refused("6: too many", x, Check.STATE, () -> x.discard(1, 500));
        Check.refused("6: of a good that is not there", x, Check.STATE, () -> x.discard(1, 1300));
        Check.refused("7: discards are due", x, Check.STATE, () -> x.rob(1, Hexstead.NONE, 0));
        Check.refused("5: discards are due", x, Check.STATE, () -> x.roll(1, 1));
        Check.refused("21: discards are due", x, Check.STATE, x::endTurn);
        Check.same("6: 4 of 9", x.discard(1, 400), Hexstead.ROB);
        Check.refused("5: the robber is due", x, Check.STATE, () -> x.roll(1, 1));
        Check.refused("21: the robber is due", x, Check.STATE, x::endTurn);
    }

    private static void robTakesByDraw() {
        int[] goods = {0, 0, 1, 3, 3, 3, 4};
        int[] draws = {0, 1, 2, 3, 4, 5, 6, 7, 13, 14, 994, 999};
        for (int draw : draws) {
            Hexstead x = Games.placedOnDeserts();
            x.deal(1, 13012);
            x.roll(1, 6);
            int due = goods[draw % 7];
            Check.same("7: draw " + draw, x.rob(2, 1, draw), due);
            Check.same("7: the turn's player has it", x.hand(0, due), 1);
            Check.same("7: just one", Games.total(x, 1), 6);
            Check.same("35: the robber is moved", x.robber(), 2);
            Check.same("22: then ACT", x.phase(), Hexstead.ACT);
        }
    }

    private static void robWithoutVictim() {
        Hexstead x = Games.placedOnDeserts();
        x.deal(0, 1);
        x.roll(5, 2);
        Check.same("7: only own buildings", x.rob(1, Hexstead.NONE, 999), Hexstead.NONE);
        Check.same("35: the robber is moved", x.robber(), 1);
        Check.same("22: then ACT", x.phase(), Hexstead.ACT);
        x.endTurn();
        x.roll(5, 2);
        Check.same("7: 2 has nothing", x.rob(4, Hexstead.NONE, 0), Hexstead.NONE);
        x.endTurn();
        x.roll(5, 2);
        Check.refused("7: 0 has a BRICK", x, Check.STATE, () -> x.rob(1, Hexstead.NONE, 0));
        Check.same("7: the last good of 0", x.rob(1, 0, 999), Hexstead.BRICK);
        Check.same("7: 2 has it", x.hand(2, Hexstead.BRICK), 1);
    }

    private static void robRefused() {
        Hexstead x = Games.placedOnDeserts();
        Check.refused("7: ahead of rolling", x, Check.STATE, () -> x.rob(1, Hexstead.NONE, 0));
        Hexstead y = Games.placedOnDeserts();
        y.deal(1, 20);
        y.deal(0, 1);
        y.roll(6, 1);
        Check.refused("7: hex 7", y, Check.INDEX, () -> y.rob(7, 1, -1));
        Check.refused("7: hex -1", y, Check.INDEX, () -> y.rob(-1, 1, 0));
        Check.refused("7: victim 3", y, Check.INDEX, () -> y.rob(2, 3, 1000));
        Check.refused("7: victim -2", y, Check.INDEX, () -> y.rob(2, -2, 0));
        Check.refused("7: draw 1000", y, Check.ARGUMENT, () -> y.rob(2, 1, 1000));
        Check.refused("7: draw -1", y, Check.ARGUMENT, () -> y.rob(2, 1, -1));
        Check.refused("7: argument ahead of state", y, Check.ARGUMENT, () -> y.rob(0, 1, -1));
        Check.refused("7: the same hexagon", y, Check.STATE, () -> y.rob(0, 1, 0));
        Check.refused("7: there is a victim", y, Check.STATE, () -> y.rob(2, Hexstead.NONE, 0));
        Check.refused("7: no building there", y, Check.STATE, () -> y.rob(1, 1, 0));
        Check.refused("7: no goods", y, Check.STATE, () -> y.rob(4, 2, 0));
        Check.refused("7: the own player", y, Check.STATE, () -> y.rob(1, 0, 0));
        Check.same("7: allowed", y.rob(2, 1, 1), Hexstead.WOOD);
        Check.refused("7: just once", y, Check.STATE, () -> y.rob(3, 1, 0));
        Check.refused("7: index ahead of state", y, Check.INDEX, () -> y.rob(9, 1, 0));
    }

    private static void turnsGoRound() {
        Hexstead x = Games.placed();
        Check.refused("21: nobody has rolled", x, Check.STATE, x::endTurn);
        int[] due = {1, 2, 0, 1};
        for (int next : due) {
            x.roll(6, 6);
            Check.same("21: then " + next, x.endTurn(), next);
            Check.same("23: turn", x.turn(), next);
            Check.same("22: phase", x.phase(), Hexstead.ROLL);
            Check.refused("21: not yet rolled", x, Check.STATE, x::endTurn);
        }
        Hexstead y = new Hexstead();
        Check.refused("21: they still place", y, Check.STATE, y::endTurn);
    }
}
