/** Promises 11 to 15, 30 to 32: growth cards and the greatest army. */
final class CardTest {
    private static final int[] ORDER = {0, 4, 1, 0, 2, 3, 0, 4, 0, 1, 2, 0, 3, 0, 4};

    private CardTest() {
    }

    public static void main(String[] args) {
        buyAll();
        buyRefused();
        buyWins();
        knight();
        knightRefused();
        knightInItsTime();
        oneCardATurn();
        army();
        armyWins();
        roads();
        roadsNotTwo();
        roadsRefused();
        roadsWin();
        plenty();
        plentyRefused();
        monopoly();
        monopolyOfAnother();
        monopolyRefused();
        Check.end();
    }

    /** 0 has bought so many cards in the first turn, and is to roll again; goods are what the players have besides. */
    private static Hexstead withCards(int many, int goodsOf0, int goodsOf1, int goodsOf2) {
        Hexstead x = Games.placedOnDeserts();
        x.deal(0, 11100 * many);
        x.deal(0, goodsOf0);
        x.deal(1, goodsOf1);
        x.deal(2, goodsOf2);
        x.roll(1, 1);
        for (int i = 0; i < many; i++) {
            x.buy();
        }
        x.endTurn();
        Games.pass(x);
        Games.pass(x);
        return x;
    }

    private static void buyAll() {
        Hexstead x = Games.deserts();
        x.place(7, 12);
        x.place(2, 8);
        x.place(4, 10);
        x.place(16, 21);
        x.place(13, 18);
        x.place(10, 15);
        x.deal(0, 99999);
        x.deal(0, 33333);
        x.roll(1, 1);
        int[] count = new int[5];
        for (int i = 0; i < 15; i++) {
            if (i == 12) {
                for (int swaps = 0; swaps < 12; swaps++) {
                    x.swap(swaps < 6 ? Hexstead.BRICK : Hexstead.WOOD, Hexstead.WOOL + swaps % 3);
                }
            }
            Check.same("11: card " + i, x.buy(), ORDER[i]);
            count[ORDER[i]]++;
            for (int kind = 0; kind < 5; kind++) {
                Check.same("32: kind " + kind + " after " + i, x.cards(0, kind), count[kind]);
            }
            Check.same("27: POINTs count", x.points(0), 2 + count[Hexstead.POINT]);
        }
        Check.same("11: goods for one more are there", Games.goods(x, 0), 11100);
        Check.refused("11: all are bought", x, Check.STATE, x::buy);
        Check.same("32: of another one", x.cards(1, Hexstead.KNIGHT), 0);
    }

    private static void buyRefused() {
        Hexstead x = new Hexstead();
        x.deal(0, 11100);
        Check.refused("11: they still place", x, Check.STATE, x::buy);
        Hexstead y = Games.placedOnDeserts();
        y.deal(0, 11100);
        Check.refused("11: nobody has rolled", y, Check.STATE, y::buy);
        y.roll(1, 6);
        Check.refused("11: the robber is due", y, Check.STATE, y::buy);
        y.rob(1, Hexstead.NONE, 0);
        Check.same("11: a KNIGHT", y.buy(), Hexstead.KNIGHT);
        Check.same("11: paid", Games.total(y, 0), 0);
        Check.same("11: into the bank", y.hand(3, 2) + y.hand(3, 3) + y.hand(3, 4), 36);
        int[] missing = {100, 1000, 10000};
        for (int good : missing) {
            Hexstead z = Games.placedOnDeserts();
            z.deal(0, 33300 - 3 * good);
            z.roll(1, 1);
            Check.refused("11: without " + good, z, Check.STATE, z::buy);
        }
    }

    private static void buyWins() {
        Hexstead x = Games.placedOnDeserts();
        x.deal(0, 99999);
        x.deal(0, 33233);
        x.deal(1, 100);
        x.roll(1, 1);
        x.buy();
        x.city(0);
        x.city(7);
        x.road(13);
        x.road(14);
        x.road(15);
        Check.same("9: 7 points", x.house(9), 7);
        x.offer(1, 100);
        x.counter(1, 100, 1);
        Check.same("11: a POINT", x.buy(), Hexstead.POINT);
        Check.same("27: 8 points", x.points(0), 8);
        Check.same("22: over", x.phase(), Hexstead.OVER);
        Check.refused("8: over", x, Check.STATE, () -> x.road(16));
        Check.refused("10: over", x, Check.STATE, () -> x.city(9));
        Check.refused("11: over", x, Check.STATE, x::buy);
        Check.refused("16: over", x, Check.STATE, () -> x.swap(0, 1));
        Check.refused("17: over", x, Check.STATE, () -> x.offer(1, 10));
        Check.refused("18: over", x, Check.STATE, () -> x.counter(1, 100, 1));
        Check.refused("19: over", x, Check.STATE, () -> x.accept(1));
        Check.refused("20: over", x, Check.STATE, () -> x.agree(1));
        Check.refused("21: over", x, Check.STATE, x::endTurn);
    }

    private static void knight() {
        int[] draws = {0, 3, 4, 7, 8, 995, 999};
        int[] due = {1, 1, 3, 3, 1, 1, 3};
        for (int i = 0; i < draws.length; i++) {
            Hexstead x = withCards(1, 0, 4040, 0);
            Check.same("12: draw " + draws[i], x.knight(2, 1, draws[i]), due[i]);
            Check.same("12: the robber", x.robber(), 2);
            Check.same("12: stolen", Games.total(x, 0), 1);
            Check.same("12: from 1", Games.total(x, 1), 7);
            Check.same("22: still to roll", x.phase(), Hexstead.ROLL);
            Check.same("31: one used", x.knights(0), 1);
            Check.same("32: none left", x.cards(0, Hexstead.KNIGHT), 0);
            Check.same("30: no army yet", x.holder(true), Hexstead.NONE);
        }
        Hexstead x = withCards(1, 0, 0, 0);
        x.roll(1, 1);
        Check.same("12: behind rolling, without a victim", x.knight(2, Hexstead.NONE, 5), Hexstead.NONE);
        Check.same("22: ACT as it was", x.phase(), Hexstead.ACT);
    }

    private static void knightRefused() {
        Hexstead x = withCards(1, 1, 20, 0);
        Check.refused("12: hex 7", x, Check.INDEX, () -> x.knight(7, 1, -1));
        Check.refused("12: hex -1", x, Check.INDEX, () -> x.knight(-1, 1, 0));
        Check.refused("12: victim 3", x, Check.INDEX, () -> x.knight(2, 3, -1));
        Check.refused("12: victim -2", x, Check.INDEX, () -> x.knight(2, -2, 0));
        Check.refused("12: draw -1", x, Check.ARGUMENT, () -> x.knight(2, 1, -1));
        Check.refused("12: draw 1000", x, Check.ARGUMENT, () -> x.knight(0, 1, 1000));
        Check.refused("12: the same hexagon", x, Check.STATE, () -> x.knight(0, 1, 0));
        Check.refused("12: there is a victim", x, Check.STATE, () -> x.knight(2, Hexstead.NONE, 0));
        Check.refused("12: no building there", x, Check.STATE, () -> x.knight(1, 1, 0));
        Check.refused("12: no goods", x, Check.STATE, () -> x.knight(4, 2, 0));
        Check.refused("12: the own player", x, Check.STATE, () -> x.knight(1, 0, 0));
        Check.same("12: a refused one is not used", x.knight(1, Hexstead.NONE, 0), Hexstead.NONE);
        Hexstead y = withCards(0, 0, 20, 0);
        Check.refused("12: no card", y, Check.STATE, () -> y.knight(2, 1, 0));
    }

    private static void knightInItsTime() {
        Hexstead x = new Hexstead();
        Check.refused("12: they still place", x, Check.STATE, () -> x.knight(1, Hexstead.NONE, 0));
        Hexstead y = Games.placedOnDeserts();
        y.deal(0, 44400);
        y.roll(1, 1);
        y.buy();
        Check.refused("12: bought in this turn", y, Check.STATE, () -> y.knight(1, Hexstead.NONE, 0));
        y.endTurn();
        Check.refused("12: another's card", y, Check.STATE, () -> y.knight(1, 0, 0));
        Games.pass(y);
        Games.pass(y);
        y.roll(1, 6);
        Check.same("22: discards are due", y.phase(), Hexstead.DISCARD);
        Check.refused("12: discards are due", y, Check.STATE, () -> y.knight(1, Hexstead.NONE, 0));
        y.discard(0, 1300);
        Check.refused("12: the robber is due", y, Check.STATE, () -> y.knight(1, Hexstead.NONE, 0));
        y.rob(1, Hexstead.NONE, 0);
        Check.same("12: when nothing is due", y.knight(6, Hexstead.NONE, 0), Hexstead.NONE);
    }

    private static void oneCardATurn() {
        Hexstead x = withCards(9, 0, 0, 0);
        Check.same("32: KNIGHTs", x.cards(0, Hexstead.KNIGHT), 4);
        x.knight(1, Hexstead.NONE, 0);
        Check.refused("12: a second one", x, Check.STATE, () -> x.knight(2, Hexstead.NONE, 0));
        Check.refused("13: a second one", x, Check.STATE, () -> x.roads(13, Hexstead.NONE));
        Check.refused("14: a second one", x, Check.STATE, () -> x.plenty(0, 0));
        Check.refused("15: a second one", x, Check.STATE, () -> x.monopoly(0));
        x.roll(1, 1);
        Check.refused("12: behind rolling", x, Check.STATE, () -> x.knight(2, Hexstead.NONE, 0));
        Check.refused("13: behind rolling", x, Check.STATE, () -> x.roads(13, Hexstead.NONE));
        x.endTurn();
        Games.pass(x);
        Games.pass(x);
        x.roll(1, 1);
        Check.same("15: in the next turn", x.monopoly(0), 0);
        Check.refused("14: a second one", x, Check.STATE, () -> x.plenty(0, 0));
        x.endTurn();
        Games.pass(x);
        Games.pass(x);
        Check.same("14: in the next turn", x.plenty(0, 0), 2);
        Check.refused("13: a second one", x, Check.STATE, () -> x.roads(13, Hexstead.NONE));
        x.roll(1, 1);
        x.endTurn();
        Games.pass(x);
        Games.pass(x);
        Check.same("13: in the next turn", x.roads(13, Hexstead.NONE), 3);
        Check.refused("12: a second one", x, Check.STATE, () -> x.knight(2, Hexstead.NONE, 0));
    }

    /** 0 has bought the first 7 cards, then 1 the other 8, each three KNIGHTs; 0 is to roll. */
    private static Hexstead twoArmies() {
        Hexstead x = Games.deserts();
        x.place(0, 5);
        x.place(7, 12);
        x.place(4, 10);
        x.place(16, 21);
        x.place(10, 15);
        x.place(13, 18);
        x.deal(0, 77700);
        x.deal(1, 55599);
        x.deal(1, 33);
        x.roll(1, 1);
        for (int i = 0; i < 7; i++) {
            x.buy();
        }
        x.endTurn();
        x.roll(1, 1);
        for (int i = 0; i < 9; i++) {
            x.swap(i < 6 ? Hexstead.BRICK : Hexstead.WOOD, Hexstead.WOOL + i % 3);
        }
        for (int i = 7; i < 15; i++) {
            Check.same("11: card " + i + " for 1", x.buy(), ORDER[i]);
        }
        x.endTurn();
        Games.pass(x);
        return x;
    }

    private static void army() {
        Hexstead x = twoArmies();
        for (int round = 1; round <= 3; round++) {
            x.knight(round % 2 == 1 ? 3 : 6, Hexstead.NONE, 0);
            Check.same("31: KNIGHTs of 0", x.knights(0), round);
            Check.same("30: of 0 in round " + round, x.holder(true), round == 3 ? 0 : Hexstead.NONE);
            Check.same("27: of 0 in round " + round, x.points(0), round == 3 ? 5 : 3);
            Games.pass(x);
            x.roll(1, 1);
            x.knight(round % 2 == 1 ? 2 : 5, Hexstead.NONE, 0);
            Check.same("31: KNIGHTs of 1", x.knights(1), round);
            Check.same("30: 0 was the first, in round " + round, x.holder(true), round == 3 ? 0 : Hexstead.NONE);
            Check.same("27: two POINTs of 1", x.points(1), 4);
            x.endTurn();
            Games.pass(x);
        }
        Check.same("32: all are used", x.cards(0, Hexstead.KNIGHT) + x.cards(1, Hexstead.KNIGHT), 0);
        Check.refused("12: none is left", x, Check.STATE, () -> x.knight(3, Hexstead.NONE, 0));
        Check.same("30: no trail", x.holder(false), Hexstead.NONE);
    }

    private static void armyWins() {
        Hexstead x = Games.placedOnDeserts();
        x.deal(0, 78844);
        x.roll(1, 1);
        for (int i = 0; i < 7; i++) {
            x.buy();
        }
        x.road(13);
        x.road(14);
        x.road(15);
        Check.same("9: 6 points", x.house(9), 6);
        for (int round = 0; round < 2; round++) {
            x.endTurn();
            Games.pass(x);
            Games.pass(x);
            x.knight(1 + 5 * round, Hexstead.NONE, 0);
            x.roll(1, 1);
        }
        x.endTurn();
        Games.pass(x);
        Games.pass(x);
        Check.same("22: two KNIGHTs do not win", x.phase(), Hexstead.ROLL);
        Check.same("12: the third one", x.knight(1, Hexstead.NONE, 0), Hexstead.NONE);
        Check.same("30: the army", x.holder(true), 0);
        Check.same("27: 8 points", x.points(0), 8);
        Check.same("22: over ahead of rolling", x.phase(), Hexstead.OVER);
        Check.same("23: the winner", x.turn(), 0);
        Check.refused("5: over", x, Check.STATE, () -> x.roll(1, 1));
    }

    private static void roads() {
        Hexstead x = withCards(3, 0, 0, 0);
        Check.same("13: the other needs the one", x.roads(13, 14), 4);
        Check.same("34: the one", x.roadAt(13), 0);
        Check.same("34: the other", x.roadAt(14), 0);
        Check.same("13: for nothing", Games.total(x, 0), 0);
        Check.same("32: used", x.cards(0, Hexstead.ROADS), 0);
        Check.same("22: still to roll", x.phase(), Hexstead.ROLL);
        Check.same("30: none at 4", x.holder(false), Hexstead.NONE);
        Hexstead y = withCards(3, 11, 0, 0);
        y.roll(1, 1);
        Check.same("8: 3", y.road(13), 3);
        Check.same("13: in two places", y.roads(14, 5), 5);
        Check.same("30: 0 at 5", y.holder(false), 0);
        Check.same("27: with the POINT", y.points(0), 5);
        Check.same("22: ACT as it was", y.phase(), Hexstead.ACT);
    }

    private static void roadsNotTwo() {
        Hexstead x = withCards(3, 55, 0, 0);
        x.roll(1, 1);
        int[] edges = {13, 14, 15, 16, 29};
        for (int edge : edges) {
            x.road(edge);
        }
        Check.refused("13: the eighth and a ninth", x, Check.STATE, () -> x.roads(28, 27));
        Check.same("13: the eighth", x.roads(28, Hexstead.NONE), 7);
        Hexstead y = withCards(3, 66, 0, 0);
        y.roll(1, 1);
        for (int edge : edges) {
            y.road(edge);
        }
        y.road(28);
        Check.refused("13: a ninth", y, Check.STATE, () -> y.roads(27, Hexstead.NONE));
    }

    private static void roadsRefused() {
        Hexstead x = withCards(3, 0, 0, 0);
        Check.refused("13: NONE as the one", x, Check.INDEX, () -> x.roads(Hexstead.NONE, 13));
        Check.refused("13: one 30", x, Check.INDEX, () -> x.roads(30, 13));
        Check.refused("13: other 30", x, Check.INDEX, () -> x.roads(13, 30));
        Check.refused("13: other -2", x, Check.INDEX, () -> x.roads(13, -2));
        Check.refused("13: the one needs the other", x, Check.STATE, () -> x.roads(14, 13));
        Check.refused("13: the same twice", x, Check.STATE, () -> x.roads(13, 13));
        Check.refused("13: there is a road", x, Check.STATE, () -> x.roads(12, 13));
        Check.refused("13: the other is not connected", x, Check.STATE, () -> x.roads(13, 15));
        Check.refused("13: another's road", x, Check.STATE, () -> x.roads(13, 8));
        Check.same("13: a refused one is not used", x.roads(29, 28), 3);
        Hexstead y = withCards(2, 0, 0, 0);
        Check.refused("13: no card", y, Check.STATE, () -> y.roads(13, 14));
        Check.refused("13: index ahead of state", y, Check.INDEX, () -> y.roads(13, 30));
        Hexstead z = Games.placedOnDeserts();
        z.deal(0, 33300);
        z.roll(1, 1);
        z.buy();
        z.buy();
        z.buy();
        Check.refused("13: bought in this turn", z, Check.STATE, () -> z.roads(13, 14));
        z.endTurn();
        Check.refused("13: another's turn", z, Check.STATE, () -> z.roads(17, Hexstead.NONE));
        Hexstead w = new Hexstead();
        Check.refused("13: they still place", w, Check.STATE, () -> w.roads(13, 14));
    }

    private static void roadsWin() {
        Hexstead x = Games.placedOnDeserts();
        x.deal(0, 98433);
        x.roll(1, 1);
        x.buy();
        x.buy();
        x.buy();
        x.road(13);
        x.road(14);
        x.house(9);
        x.city(0);
        Check.same("10: 6 points", x.city(7), 6);
        x.endTurn();
        Games.pass(x);
        Games.pass(x);
        Check.same("13: the trail", x.roads(15, Hexstead.NONE), 5);
        Check.same("27: 8 points", x.points(0), 8);
        Check.same("22: over", x.phase(), Hexstead.OVER);
        Check.same("23: the winner", x.turn(), 0);
    }

    private static void plenty() {
        Hexstead x = withCards(5, 0, 0, 0);
        Check.same("14: two", x.plenty(Hexstead.ORE, Hexstead.BRICK), 2);
        Check.same("14: which", Games.goods(x, 0), 10001);
        Check.same("14: from the bank", x.hand(3, 0) + x.hand(3, 4), 22);
        Check.same("32: used", x.cards(0, Hexstead.PLENTY), 0);
        Check.same("22: still to roll", x.phase(), Hexstead.ROLL);
        Hexstead y = withCards(5, 2, 8, 0);
        y.roll(1, 1);
        Check.same("14: the last two BRICK", y.plenty(0, 0), 4);
        Check.same("24: none is left", y.hand(3, 0), 0);
    }

    private static void plentyRefused() {
        Hexstead x = withCards(5, 2, 9, 0);
        Check.refused("14: one -1", x, Check.ARGUMENT, () -> x.plenty(-1, 2));
        Check.refused("14: one 5", x, Check.ARGUMENT, () -> x.plenty(5, 2));
        Check.refused("14: other -1", x, Check.ARGUMENT, () -> x.plenty(2, -1));
        Check.refused("14: other 5", x, Check.ARGUMENT, () -> x.plenty(2, 5));
        Check.refused("14: the bank has one", x, Check.STATE, () -> x.plenty(0, 0));
        Check.same("14: a refused one is not used", x.plenty(0, 1), 4);
        Hexstead y = withCards(5, 3, 9, 0);
        Check.refused("14: the bank has no BRICK", y, Check.STATE, () -> y.plenty(0, 1));
        Check.refused("14: the bank has no BRICK", y, Check.STATE, () -> y.plenty(1, 0));
        Hexstead z = withCards(4, 0, 0, 0);
        Check.refused("14: no card", z, Check.STATE, () -> z.plenty(0, 1));
        Check.refused("14: argument ahead of state", z, Check.ARGUMENT, () -> z.plenty(0, 5));
        Hexstead w = Games.placedOnDeserts();
        w.deal(0, 55500);
        w.roll(1, 1);
        for (int i = 0; i < 5; i++) {
            w.buy();
        }
        Check.refused("14: bought in this turn", w, Check.STATE, () -> w.plenty(0, 1));
    }

    private static void monopoly() {
        Hexstead x = withCards(6, 1001, 2034, 3001);
        Check.same("15: all GRAIN", x.monopoly(Hexstead.GRAIN), 5);
        Check.same("15: 0 has them", Games.goods(x, 0), 6001);
        Check.same("15: 1 has the rest", Games.goods(x, 1), 34);
        Check.same("15: 2 has the rest", Games.goods(x, 2), 1);
        Check.same("15: not from the bank", x.hand(3, Hexstead.GRAIN), 6);
        Check.same("25: by moves", x.handByMoves(0, Hexstead.GRAIN), 6);
        Check.same("32: used", x.cards(0, Hexstead.MONOPOLY), 0);
        Check.same("22: still to roll", x.phase(), Hexstead.ROLL);
        Hexstead y = withCards(6, 1, 2, 20);
        y.roll(1, 1);
        Check.same("15: nobody has ORE", y.monopoly(Hexstead.ORE), 0);
        Check.same("32: used all the same", y.cards(0, Hexstead.MONOPOLY), 0);
    }

    private static void monopolyOfAnother() {
        Hexstead x = Games.placedOnDeserts();
        x.deal(0, 30);
        x.deal(1, 66610);
        x.deal(2, 40);
        Games.pass(x);
        x.roll(1, 1);
        for (int i = 0; i < 6; i++) {
            x.buy();
        }
        x.endTurn();
        Games.pass(x);
        Games.pass(x);
        Check.same("15: of 0 and of 2", x.monopoly(Hexstead.WOOD), 7);
        Check.same("15: 1 has them", Games.goods(x, 1), 80);
        Check.same("15: 0 and 2 have none", Games.total(x, 0) + Games.total(x, 2), 0);
    }

    private static void monopolyRefused() {
        Hexstead x = withCards(6, 0, 2, 0);
        Check.refused("15: good -1", x, Check.ARGUMENT, () -> x.monopoly(-1));
        Check.refused("15: good 5", x, Check.ARGUMENT, () -> x.monopoly(5));
        Check.same("15: a refused one is not used", x.monopoly(0), 2);
        Hexstead y = withCards(5, 0, 2, 0);
        Check.refused("15: no card", y, Check.STATE, () -> y.monopoly(0));
        Check.refused("15: argument ahead of state", y, Check.ARGUMENT, () -> y.monopoly(5));
        Hexstead z = Games.placedOnDeserts();
        z.deal(0, 66600);
        z.roll(1, 1);
        for (int i = 0; i < 6; i++) {
            z.buy();
        }
        Check.refused("15: bought in this turn", z, Check.STATE, () -> z.monopoly(0));
    }
}
