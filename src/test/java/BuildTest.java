/** Promises 8 to 10, 27 to 30, 33 and 34: roads, houses, cities, trails and who has won. */
final class BuildTest {
    private BuildTest() {
    }

    public static void main(String[] args) {
        roads();
        roadRefused();
        mostRoads();
        roadPastBuildings();
        houses();
        houseRefused();
        houseNeedsAllGoods();
        mostHouses();
        mostCities();
        cityRefused();
        trailRoundARing();
        trailRoundARingWithAStranger();
        trailOfAllRoads();
        trailWithBranches();
        trailHolderStaysAndGoes();
        noHolderBelowFive();
        tieAfterAPartedTrail();
        winAtTheBeginningOfATurn();
        winInTheTurn();
        Check.end();
    }

    private static Hexstead rich(int player) {
        Hexstead x = Games.placedOnDeserts();
        x.deal(player, 99999);
        for (int turn = 0; turn < player; turn++) {
            Games.pass(x);
        }
        return x;
    }

    private static void bothTrails(String what, Hexstead x, int player, int due) {
        Check.same("28: " + what, x.trail(player), due);
        Check.same("29: " + what, x.trailBySets(player), due);
    }

    private static void roads() {
        Hexstead x = rich(0);
        x.roll(1, 1);
        Check.same("8: from an own building", x.road(13), 3);
        Check.same("8: it costs a BRICK and a WOOD", Games.goods(x, 0), 99988);
        Check.same("8: that goes to the bank", x.hand(3, 0) * 100 + x.hand(3, 1), 404);
        Check.same("34: whose", x.roadAt(13), 0);
        Check.same("8: from the other building", x.road(5), 4);
        Check.same("8: from a road", x.road(11), 5);
        bothTrails("of 0", x, 0, 5);
        bothTrails("of 1, as placed", x, 1, 2);
        bothTrails("of 2, apart", x, 2, 1);
        Check.same("8: two points for it", x.points(0), 4);
        x.trail(1);
        Check.same("29: whoever was asked for ahead of it", x.trailBySets(0), 5);
        x.trailBySets(2);
        Check.same("28: whoever was asked for ahead of it", x.trail(0), 5);
    }

    private static void roadRefused() {
        Hexstead x = new Hexstead();
        Check.refused("8: they still place", x, Check.STATE, () -> x.road(0));
        Hexstead y = rich(0);
        Check.refused("8: nobody has rolled", y, Check.STATE, () -> y.road(13));
        y.roll(1, 1);
        Check.refused("8: edge 30", y, Check.INDEX, () -> y.road(30));
        Check.refused("8: edge -1", y, Check.INDEX, () -> y.road(-1));
        Check.refused("8: an own road", y, Check.STATE, () -> y.road(12));
        Check.refused("8: another's road", y, Check.STATE, () -> y.road(8));
        Check.refused("8: not connected", y, Check.STATE, () -> y.road(15));
        Check.refused("8: at another's building", y, Check.STATE, () -> y.road(2));
        y.endTurn();
        y.roll(1, 1);
        Check.refused("8: has no goods", y, Check.STATE, () -> y.road(17));
        Check.refused("8: index ahead of state", y, Check.INDEX, () -> y.road(30));
        Hexstead z = Games.placedOnDeserts();
        z.deal(0, 1);
        z.deal(1, 10);
        z.roll(1, 1);
        Check.refused("8: has no WOOD", z, Check.STATE, () -> z.road(13));
        z.endTurn();
        z.roll(1, 1);
        Check.refused("8: has no BRICK", z, Check.STATE, () -> z.road(17));
    }

    private static void mostRoads() {
        Hexstead x = rich(0);
        x.roll(1, 1);
        int[] edges = {13, 14, 15, 16, 29, 28};
        for (int edge : edges) {
            x.road(edge);
        }
        Check.same("8: the goods are there", x.hand(0, 0), 3);
        Check.refused("8: a ninth road", x, Check.STATE, () -> x.road(27));
    }

    private static void roadPastBuildings() {
        Hexstead x = Games.deserts();
        x.place(7, 13);
        x.place(9, 7);
        x.place(22, 27);
        x.place(19, 24);
        x.place(16, 21);
        x.place(13, 18);
        x.deal(0, 44);
        x.roll(1, 1);
        Check.same("8: as far as another's building", x.road(14), 2);
        Check.refused("8: not past it", x, Check.STATE, () -> x.road(15));
        Check.same("8: from the other side", x.road(17), 2);
        Check.same("8: from the other side", x.road(16), 3);
        Check.same("8: as far as it from there", x.road(15), 4);
        bothTrails("no way goes through 9", x, 0, 4);
    }

    private static void houses() {
        Hexstead x = rich(0);
        x.roll(1, 1);
        x.road(13);
        x.road(14);
        Check.same("9: points", x.house(9), 3);
        Check.same("9: a BRICK, a WOOD, a WOOL and a GRAIN", Games.goods(x, 0), 98866);
        Check.same("9: into the bank", x.hand(3, Hexstead.GRAIN), 4);
        Check.same("33: whose", x.buildingAt(9), 0);
        Check.same("10: points", x.city(9), 4);
        Check.same("10: 2 GRAIN and 3 ORE", Games.goods(x, 0), 66866);
        Check.same("10: into the bank", x.hand(3, Hexstead.ORE), 6);
        Check.same("33: a city", x.buildingAt(9), 3);
        Check.same("27: points", x.points(0), 4);
        Check.same("27: of others", x.points(1), 2);
        Hexstead y = rich(2);
        y.roll(1, 1);
        y.city(16);
        Check.same("33: a city of 2", y.buildingAt(16), 5);
    }

    private static void houseRefused() {
        Hexstead x = new Hexstead();
        Check.refused("9: they still place", x, Check.STATE, () -> x.house(0));
        Hexstead y = Games.placedOnDeserts();
        y.deal(0, 99999);
        y.deal(1, 1111);
        Check.refused("9: nobody has rolled", y, Check.STATE, () -> y.house(9));
        y.roll(1, 1);
        Check.refused("9: corner 24", y, Check.INDEX, () -> y.house(24));
        Check.refused("9: corner -1", y, Check.INDEX, () -> y.house(-1));
        Check.refused("9: no own road", y, Check.STATE, () -> y.house(9));
        Check.refused("9: there is a house", y, Check.STATE, () -> y.house(7));
        y.road(13);
        Check.refused("9: next to a house", y, Check.STATE, () -> y.house(8));
        y.city(7);
        Check.refused("9: next to a city", y, Check.STATE, () -> y.house(8));
        Check.refused("9: on a city", y, Check.STATE, () -> y.house(7));
        int[] edges = {14, 15, 16, 17};
        for (int edge : edges) {
            y.road(edge);
        }
        Check.refused("9: next to another's house", y, Check.STATE, () -> y.house(12));
        y.endTurn();
        y.roll(1, 1);
        Check.refused("9: another's road", y, Check.STATE, () -> y.house(9));
        Check.refused("9: index ahead of state", y, Check.INDEX, () -> y.house(24));
        y.endTurn();
        Games.pass(y);
        Check.refused("9: ahead of rolling", y, Check.STATE, () -> y.house(9));
        Check.refused("8: ahead of rolling", y, Check.STATE, () -> y.road(29));
        Check.refused("10: ahead of rolling", y, Check.STATE, () -> y.city(0));
        y.roll(1, 6);
        Check.same("22: discards are due", y.phase(), Hexstead.DISCARD);
        Check.refused("9: discards are due", y, Check.STATE, () -> y.house(9));
        Check.refused("8: discards are due", y, Check.STATE, () -> y.road(29));
        Check.refused("10: discards are due", y, Check.STATE, () -> y.city(0));
    }

    private static void houseNeedsAllGoods() {
        for (int missing = 1; missing <= 1000; missing *= 10) {
            Hexstead x = Games.placedOnDeserts();
            x.deal(0, 1133 - missing);
            x.roll(1, 1);
            x.road(13);
            x.road(14);
            Check.refused("9: without " + missing, x, Check.STATE, () -> x.house(9));
        }
        Hexstead x = Games.placedOnDeserts();
        x.deal(0, 1133);
        x.roll(1, 1);
        x.road(13);
        x.road(14);
        Check.same("9: with all", x.house(9), 3);
        Check.same("9: nothing is left", Games.total(x, 0), 0);
    }

    private static void mostHouses() {
        Hexstead x = Games.placedOnDeserts();
        x.deal(0, 99999);
        x.deal(0, 33333);
        x.roll(1, 1);
        int[] edges = {13, 14, 29, 28, 15, 16};
        for (int edge : edges) {
            x.road(edge);
        }
        x.house(9);
        x.house(22);
        Check.same("27: 4 houses and the longest trail", x.points(0), 6);
        Check.refused("9: a fifth house", x, Check.STATE, () -> x.house(11));
        Check.same("10: a city sets a house free", x.city(22), 7);
        Check.same("9: the house is free, and 0 has won", x.house(11), 8);
        Check.same("22: over", x.phase(), Hexstead.OVER);
        allRefused(x);
    }

    private static void mostCities() {
        Hexstead x = Games.deserts();
        x.place(2, 8);
        x.place(7, 13);
        x.place(4, 10);
        x.place(16, 21);
        x.place(22, 28);
        x.place(13, 18);
        x.deal(1, 99255);
        x.deal(1, 31000);
        Games.pass(x);
        x.roll(1, 1);
        int[] edges = {14, 27, 26};
        for (int edge : edges) {
            x.road(edge);
        }
        x.house(9);
        x.house(20);
        Check.same("10: a city", x.city(7), 5);
        Check.same("10: a second one", x.city(22), 6);
        Check.same("10: a third one", x.city(9), 7);
        Check.same("33: a city of 1", x.buildingAt(9), 4);
        Check.same("24: the goods for a fourth one are there", Games.goods(x, 1), 32000);
        Check.refused("10: a fourth one", x, Check.STATE, () -> x.city(20));
    }

    private static void cityRefused() {
        Hexstead x = new Hexstead();
        x.deal(0, 32000);
        x.place(0, 0);
        Check.refused("10: they still place", x, Check.STATE, () -> x.city(0));
        Hexstead y = rich(0);
        Check.refused("10: nobody has rolled", y, Check.STATE, () -> y.city(0));
        y.roll(1, 1);
        Check.refused("10: corner 24", y, Check.INDEX, () -> y.city(24));
        Check.refused("10: corner -1", y, Check.INDEX, () -> y.city(-1));
        Check.refused("10: nothing there", y, Check.STATE, () -> y.city(9));
        Check.refused("10: another's house", y, Check.STATE, () -> y.city(2));
        y.city(0);
        Check.refused("10: there is a city", y, Check.STATE, () -> y.city(0));
        y.endTurn();
        Check.refused("10: index ahead of state", y, Check.INDEX, () -> y.city(24));
        int[] tooFew = {31000, 22000};
        for (int goods : tooFew) {
            Hexstead z = Games.placedOnDeserts();
            z.deal(0, goods);
            z.roll(1, 1);
            Check.refused("10: too few, " + goods, z, Check.STATE, () -> z.city(0));
        }
    }

    private static void trailRoundARing() {
        Hexstead x = Games.deserts();
        x.place(0, 0);
        x.place(13, 18);
        x.place(19, 24);
        x.place(16, 21);
        x.place(10, 15);
        x.place(3, 3);
        x.deal(0, 66);
        x.roll(1, 1);
        Check.same("8: 1-0-5", x.road(5), 2);
        Check.same("8: 1-0-5-4-3", x.road(4), 4);
        Check.same("8: 2-1-0-5-4-3", x.road(1), 5);
        Check.same("8: round the ring", x.road(2), 6);
        Check.same("8: and a tail", x.road(9), 7);
        Check.same("8: of two tails one counts", x.road(6), 7);
        bothTrails("a ring with two tails", x, 0, 7);
    }

    private static void trailRoundARingWithAStranger() {
        Hexstead x = Games.deserts();
        x.place(0, 0);
        x.place(3, 9);
        x.place(13, 18);
        x.place(16, 21);
        x.place(10, 15);
        x.place(22, 27);
        x.deal(0, 66);
        x.roll(1, 1);
        Check.same("8: 1-0-5", x.road(5), 2);
        Check.same("8: 1-0-5-4", x.road(4), 3);
        Check.same("8: 2-1-0-5-4", x.road(1), 4);
        Check.same("8: to the stranger's corner", x.road(2), 5);
        Check.same("8: from it round to it", x.road(3), 6);
        Check.same("8: a tail needs the way through it", x.road(6), 6);
        bothTrails("a ring with a stranger and a tail", x, 0, 6);
    }

    private static void trailOfAllRoads() {
        Hexstead x = Games.deserts();
        x.place(7, 12);
        x.place(2, 8);
        x.place(4, 10);
        x.place(16, 21);
        x.place(13, 18);
        x.place(22, 28);
        x.deal(0, 66);
        x.roll(1, 1);
        int[] edges = {29, 13, 14, 15, 16, 17};
        for (int i = 0; i < edges.length; i++) {
            Check.same("8: along the shore", x.road(edges[i]), 3 + i);
        }
        bothTrails("all roads", x, 0, 8);
    }

    private static void trailWithBranches() {
        Hexstead x = Games.deserts();
        x.place(7, 12);
        x.place(13, 18);
        x.place(19, 24);
        x.place(16, 21);
        x.place(11, 16);
        x.place(4, 4);
        x.deal(0, 66);
        x.roll(1, 1);
        Check.same("8: 7-6-23", x.road(29), 2);
        Check.same("8: a branch at 6", x.road(6), 2);
        Check.same("8: 4-5-0-6-7", x.road(5), 4);
        Check.same("8: 4-5-0-6-23-22", x.road(28), 5);
        Check.same("8: a branch at 0", x.road(0), 5);
        bothTrails("two branches", x, 0, 5);
    }

    private static void trailHolderStaysAndGoes() {
        Hexstead x = Games.race();
        x.roll(1, 1);
        x.road(13);
        Check.same("8: joined by 14", x.road(14), 4);
        Check.same("30: nobody at 4", x.holder(false), Hexstead.NONE);
        Check.same("8: 5", x.road(16), 5);
        Check.same("30: 0 at 5", x.holder(false), 0);
        Check.same("27: two more", x.points(0), 4);
        x.endTurn();
        x.roll(1, 1);
        x.road(4);
        x.road(9);
        Check.same("8: 1 has 5, too", x.road(6), 5);
        Check.same("30: 0 stays", x.holder(false), 0);
        x.endTurn();
        x.roll(1, 1);
        x.road(19);
        x.road(20);
        Check.same("8: 2 has 5, too", x.road(21), 5);
        Check.same("30: 0 stays yet", x.holder(false), 0);
        Check.same("8: 2 has 6", x.road(23), 6);
        Check.same("30: 2 has more", x.holder(false), 2);
        Check.same("27: 0 has lost them", x.points(0), 2);
        Check.same("27: 2 has them", x.points(2), 4);
        Check.same("30: nobody has the army", x.holder(true), Hexstead.NONE);
    }

    private static Hexstead sixOfTwo() {
        Hexstead x = Games.race();
        Games.pass(x);
        Games.pass(x);
        x.roll(1, 1);
        int[] edges = {19, 20, 21, 23};
        for (int edge : edges) {
            x.road(edge);
        }
        x.endTurn();
        return x;
    }

    private static void noHolderBelowFive() {
        Hexstead x = sixOfTwo();
        Check.same("30: 2 has 6", x.holder(false), 2);
        Games.pass(x);
        x.roll(1, 1);
        x.road(9);
        Check.same("30: 2 holds it yet", x.holder(false), 2);
        Check.same("9: a third house", x.house(15), 3);
        bothTrails("2 is parted", x, 2, 3);
        Check.same("30: nobody has 5", x.holder(false), Hexstead.NONE);
        Check.same("27: two fewer", x.points(2), 2);
    }

    /** 2 has 6, then 0 has 5 and three cities; the turn is 1's, who can part the trail of 2 by a house at 15. */
    private static Hexstead beforeParting(int... roadsOfOne) {
        Hexstead x = sixOfTwo();
        x.roll(1, 1);
        x.road(13);
        x.road(14);
        x.road(16);
        x.house(11);
        x.city(7);
        x.city(9);
        x.city(11);
        x.endTurn();
        x.roll(1, 1);
        for (int edge : roadsOfOne) {
            x.road(edge);
        }
        return x;
    }

    private static void tieAfterAPartedTrail() {
        Hexstead x = beforeParting(9, 4, 6);
        Check.same("30: 2 has 6", x.holder(false), 2);
        bothTrails("0 has 5", x, 0, 5);
        bothTrails("1 has 5", x, 1, 5);
        Check.same("9: 1 has 3 houses", x.house(15), 3);
        bothTrails("2 is parted", x, 2, 3);
        Check.same("30: 0 and 1 have the same", x.holder(false), Hexstead.NONE);
        Check.same("27: two fewer", x.points(2), 2);
        Check.same("27: three cities", x.points(0), 6);
    }

    private static void winAtTheBeginningOfATurn() {
        Hexstead x = beforeParting(9);
        Check.same("27: three cities", x.points(0), 6);
        x.house(15);
        Check.same("30: 0 alone has 5", x.holder(false), 0);
        Check.same("27: 8 points", x.points(0), 8);
        Check.same("22: but not in the own turn", x.phase(), Hexstead.ACT);
        Check.same("21: then 2", x.endTurn(), 2);
        Check.same("22: nor now", x.phase(), Hexstead.ROLL);
        x.roll(1, 1);
        Check.same("21: 0 has won", x.endTurn(), 0);
        Check.same("22: over", x.phase(), Hexstead.OVER);
        Check.same("23: the winner", x.turn(), 0);
        allRefused(x);
    }

    private static void winInTheTurn() {
        Hexstead x = Games.race();
        x.roll(1, 1);
        x.road(13);
        x.road(14);
        x.road(16);
        x.house(11);
        x.city(7);
        x.city(9);
        Check.same("27: 7 points", x.points(0), 7);
        Check.same("22: not yet", x.phase(), Hexstead.ACT);
        Check.same("10: 8 points", x.city(11), 8);
        Check.same("22: over at once", x.phase(), Hexstead.OVER);
        Check.same("23: the winner", x.turn(), 0);
        allRefused(x);
    }

    private static void allRefused(Hexstead x) {
        Check.refused("2: over", x, Check.STATE, () -> x.layHex(1, 1, 5));
        Check.refused("3: over", x, Check.STATE, () -> x.place(20, 26));
        Check.refused("4: over", x, Check.STATE, () -> x.deal(0, 0));
        Check.refused("5: over", x, Check.STATE, () -> x.roll(1, 1));
        Check.refused("6: over", x, Check.STATE, () -> x.discard(0, 0));
        Check.refused("7: over", x, Check.STATE, () -> x.rob(3, 1, 0));
        Check.refused("8: over", x, Check.STATE, () -> x.road(17));
        Check.refused("9: over", x, Check.STATE, () -> x.house(12));
        Check.refused("10: over", x, Check.STATE, () -> x.city(7));
        Check.refused("11: over", x, Check.STATE, x::buy);
        Check.refused("12: over", x, Check.STATE, () -> x.knight(3, 1, 0));
        Check.refused("13: over", x, Check.STATE, () -> x.roads(17, -1));
        Check.refused("14: over", x, Check.STATE, () -> x.plenty(0, 0));
        Check.refused("15: over", x, Check.STATE, () -> x.monopoly(0));
        Check.refused("16: over", x, Check.STATE, () -> x.swap(0, 1));
        Check.refused("17: over", x, Check.STATE, () -> x.offer(1, 10));
        Check.refused("18: over", x, Check.STATE, () -> x.counter(1, 1, 10));
        Check.refused("19: over", x, Check.STATE, () -> x.accept(1));
        Check.refused("20: over", x, Check.STATE, () -> x.agree(1));
        Check.refused("21: over", x, Check.STATE, x::endTurn);
    }
}
