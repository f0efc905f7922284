/** Each sentence of "The game" ahead of the cards, and of promises 3 to 7, 21 to 23, 26, 35, 37, that names a bound. */
final class BoundsGameTest {
    private BoundsGameTest() {
    }

    public static void main(String[] args) {
        placeInOrder();
        nothingIsPaid();
        roadNeedNotBeConnectedOtherwise();
        firstHouseGetsNothing();
        secondHouseGetsOneOfEach();
        secondHouseAsFarAsTheBankHasIt();
        dealUntilSomebodyHasRolled();
        turnsGoRound();
        rollOnce();
        everySum();
        lowestAndHighestSum();
        notWhereTheRobberIs();
        twoForACity();
        moreHexagonsOfOneNumber();
        allThatTheBankHas();
        moreThanTheBankHas();
        aloneWithAShortBank();
        shortOfOneGoodOnly();
        moreThanSevenGoods();
        halfRoundedDown();
        onlyWhatIsDue();
        whenAllHaveDoneSo();
        anotherHexagon();
        victims();
        noVictim();
        draws();
        wouldGetForAll();
        fullOfCalls();
        fullOfMoves();
        Check.end();
    }

    /** "in the order 0, 1, 2, 2, 1, 0" */
    private static void placeInOrder() {
        int[] corners = {0, 2, 4, 16, 13, 7};
        int[] edges = {6, 8, 10, 21, 18, 12};
        int[] next = {1, 2, 2, 1, 0, 0};
        Hexstead x = new Hexstead();
        for (int i = 0; i < 6; i++) {
            Check.same("22: the house " + i + " is still to be placed", x.phase(), Hexstead.PLACE);
            Check.refused("5: no roll ahead of the house " + i, x, Check.STATE, () -> x.roll(1, 1));
            Check.same("3: then it is the turn of", x.place(corners[i], edges[i]), next[i]);
            Check.same("23: turn", x.turn(), next[i]);
        }
        Check.same("22: six houses are all", x.phase(), Hexstead.ROLL);
        Check.refused("3: a seventh", x, Check.STATE, () -> x.place(10, 15));
        for (int player = 0; player < 3; player++) {
            Check.same("27: two houses each", x.points(player), 2);
        }
    }

    /** "nothing is paid" */
    private static void nothingIsPaid() {
        Hexstead x = Games.deserts();
        x.deal(0, 2222);
        x.place(0, 6);
        Check.same("3: who has goods keeps them", Games.goods(x, 0), 2222);
        Check.same("3: who has none needs none", x.place(2, 8), 2);
        x.place(4, 10);
        x.place(16, 21);
        x.place(13, 18);
        x.place(7, 12);
        Check.same("3: nor for the second", Games.goods(x, 0), 2222);
        Check.same("3: the bank got nothing", Games.total(x, 3), 52);
    }

    /** "a road that has its corner", "a road need not be connected otherwise" */
    private static void roadNeedNotBeConnectedOtherwise() {
        Hexstead x = Games.deserts();
        x.place(0, 0);
        x.place(3, 3);
        x.place(19, 24);
        x.place(22, 27);
        x.place(13, 18);
        Check.refused("3: an edge next to the first road, not at the corner", x, Check.STATE, () -> x.place(16, 5));
        Check.refused("3: an edge one further than the corner", x, Check.STATE, () -> x.place(16, 23));
        Check.same("3: far from the first road", x.place(16, 22), 0);
        Check.same("28: apart", x.trail(0), 1);
        Hexstead y = Games.deserts();
        y.place(7, 13);
        Check.refused("3: at the end of another's road, along it", y, Check.STATE, () -> y.place(8, 13));
        y.place(9, 15);
        Check.refused("3: at the end of another's road, away from it", y, Check.STATE, () -> y.place(10, 16));
        Check.same("3: with a road that meets another's", y.place(11, 16), 2);
    }

    private static void firstHouseGetsNothing() {
        Hexstead x = new Hexstead();
        x.place(1, 0);
        x.place(3, 3);
        x.place(5, 5);
        Check.same("3: no goods for the first houses", Games.total(x, 3), 60);
        x.place(19, 24);
        Check.same("3: one for the first second one", Games.goods(x, 2), 10000);
        x.place(16, 21);
        Check.same("3: one for the next", Games.goods(x, 1), 1000);
        x.place(13, 18);
        Check.same("3: one for the last", Games.goods(x, 0), 100);
        Check.same("3: from the bank", Games.total(x, 3), 57);
    }

    /** "one of the good of each hexagon that has its corner, also that of the robber" */
    private static void secondHouseGetsOneOfEach() {
        Hexstead x = new Hexstead();
        x.place(7, 12);
        x.place(10, 15);
        x.place(13, 18);
        x.place(0, 5);
        Check.same("3: of two; nothing of the DESERT", Games.goods(x, 2), 11);
        x.place(15, 20);
        Check.same("3: of two on the shore", Games.goods(x, 1), 1100);
        x.place(22, 27);
        Check.same("3: of one", Games.goods(x, 0), 10);
        Hexstead y = new Hexstead();
        y.layHex(0, Hexstead.BRICK, 2);
        y.place(10, 15);
        y.place(13, 18);
        y.place(16, 21);
        y.place(0, 5);
        Check.same("35: the robber is on 0", y.robber(), 0);
        Check.same("3: two BRICK, one of the robber's hexagon", Games.goods(y, 2), 12);
        Hexstead z = Games.deserts();
        z.layHex(0, Hexstead.ORE, 3);
        z.layHex(1, Hexstead.ORE, 3);
        z.layHex(6, Hexstead.ORE, 4);
        z.place(10, 15);
        z.place(13, 18);
        z.place(16, 21);
        z.place(0, 5);
        Check.same("3: three of the same good", Games.goods(z, 2), 30000);
    }

    /** "as far as the bank has it" */
    private static void secondHouseAsFarAsTheBankHasIt() {
        for (int left = 0; left <= 4; left++) {
            Hexstead x = Games.deserts();
            x.layHex(0, Hexstead.ORE, 3);
            x.layHex(1, Hexstead.ORE, 3);
            x.layHex(6, Hexstead.ORE, 4);
            x.deal(0, 10000 * Math.min(9, 12 - left));
            x.deal(0, 10000 * Math.max(0, 3 - left));
            x.place(10, 15);
            x.place(13, 18);
            x.place(16, 21);
            Check.same("24: what the bank has", x.hand(3, Hexstead.ORE), left);
            Check.same("3: it is placed all the same", x.place(0, 5), 1);
            Check.same("3: of three, where the bank has " + left, x.hand(2, Hexstead.ORE), Math.min(3, left));
            Check.same("3: what is left of " + left, x.hand(3, Hexstead.ORE), Math.max(0, left - 3));
        }
        Hexstead y = new Hexstead();
        y.deal(0, 9);
        y.deal(0, 3);
        y.place(10, 15);
        y.place(13, 18);
        y.place(16, 21);
        y.place(0, 5);
        Check.same("3: no BRICK, but a WOOD", Games.goods(y, 2), 10);
    }

    /** "While nobody has rolled, goods can be dealt from the bank.", "also while they place" */
    private static void dealUntilSomebodyHasRolled() {
        int[] corners = {0, 2, 4, 16, 13, 7};
        int[] edges = {6, 8, 10, 21, 18, 12};
        Hexstead x = Games.deserts();
        for (int i = 0; i < 6; i++) {
            Check.same("4: ahead of the house " + i, x.deal(i % 3, 1), 1 + i / 3);
            x.place(corners[i], edges[i]);
        }
        Check.same("4: when all is placed", x.deal(2, 1), 3);
        Check.refused("5: a refused roll", x, Check.ARGUMENT, () -> x.roll(0, 7));
        Check.same("4: behind a refused roll", x.deal(2, 1), 4);
        int[][] rolls = {{1, 1}, {3, 4}, {6, 6}};
        for (int[] roll : rolls) {
            Hexstead y = Games.placedOnDeserts();
            y.roll(roll[0], roll[1]);
            Check.refused("4: somebody has rolled", y, Check.STATE, () -> y.deal(0, 1));
            Check.refused("4: somebody has rolled", y, Check.STATE, () -> y.deal(2, 0));
        }
    }

    /** "turns, of 0, 1, 2, 0 and so on" */
    private static void turnsGoRound() {
        Hexstead x = Games.placedOnDeserts();
        for (int i = 0; i < 30; i++) {
            Check.same("23: turn " + i, x.turn(), i % 3);
            x.roll(6, 6);
            Check.same("23: rolling leaves it", x.turn(), i % 3);
            Check.same("21: behind turn " + i, x.endTurn(), (i + 1) % 3);
        }
    }

    /** "In a turn the player rolls once." */
    private static void rollOnce() {
        Hexstead x = Games.placed();
        x.roll(1, 1);
        Check.refused("5: a second time", x, Check.STATE, () -> x.roll(2, 4));
        x.endTurn();
        x.roll(1, 6);
        Check.refused("5: again ahead of the robber", x, Check.STATE, () -> x.roll(1, 1));
        x.rob(1, 0, 0);
        Check.refused("5: again behind the robber", x, Check.STATE, () -> x.roll(1, 1));
        x.endTurn();
        Check.same("5: the next one", x.roll(1, 1), Hexstead.ACT);
    }

    /** "With a sum but 7, each hexagon with that number": the sum alone counts, and no other. */
    private static void everySum() {
        for (int number = 2; number <= 12; number++) {
            for (int one = 1; one <= 6 && number != 7; one++) {
                for (int other = 1; other <= 6; other++) {
                    Hexstead x = Games.deserts();
                    x.layHex(1, Hexstead.ORE, number);
                    x.place(7, 12);
                    x.place(2, 8);
                    x.place(4, 10);
                    x.place(16, 21);
                    x.place(13, 18);
                    x.place(22, 27);
                    int due = one + other == number ? 1 : 0;
                    Check.same("5: then", x.roll(one, other), one + other == 7 ? Hexstead.ROB : Hexstead.ACT);
                    Check.same("5: number " + number + ", " + one + " and " + other, x.hand(0, Hexstead.ORE), due);
                }
            }
        }
    }

    private static void lowestAndHighestSum() {
        Hexstead x = Games.deserts();
        x.layHex(1, Hexstead.BRICK, 2);
        x.layHex(6, Hexstead.ORE, 12);
        x.place(7, 12);
        x.place(2, 8);
        x.place(4, 10);
        x.place(16, 21);
        x.place(13, 18);
        x.place(22, 27);
        int[][] due = {{2, 1, 0}, {3, 0, 0}, {11, 0, 0}, {12, 0, 1}};
        for (int[] row : due) {
            Check.same("37: BRICK of " + row[0], x.wouldGet(0, Hexstead.BRICK, row[0]), row[1]);
            Check.same("37: ORE of " + row[0], x.wouldGet(0, Hexstead.ORE, row[0]), row[2]);
        }
        x.roll(1, 1);
        Check.same("5: 2, beside the ORE of the second house", Games.goods(x, 0), 10001);
        x.endTurn();
        x.roll(6, 6);
        Check.same("5: 12", Games.goods(x, 0), 20001);
    }

    /** "on which the robber is not" */
    private static void notWhereTheRobberIs() {
        Hexstead x = Games.deserts();
        x.layHex(1, Hexstead.BRICK, 6);
        x.layHex(6, Hexstead.ORE, 6);
        x.place(7, 12);
        x.place(2, 8);
        x.place(4, 10);
        x.place(16, 21);
        x.place(13, 18);
        x.place(22, 27);
        x.roll(3, 4);
        x.rob(6, Hexstead.NONE, 0);
        Check.same("37: not of 6", x.wouldGet(0, Hexstead.ORE, 6), 0);
        Check.same("37: of 1, with the same number", x.wouldGet(0, Hexstead.BRICK, 6), 1);
        x.endTurn();
        x.roll(3, 3);
        Check.same("5: of 1 alone, beside the ORE of the second house", Games.goods(x, 0), 10001);
        x.endTurn();
        x.roll(3, 4);
        x.rob(1, 0, 1);
        Check.same("37: the robber is on 1 now", x.wouldGet(0, Hexstead.BRICK, 6), 0);
        Check.same("37: and 6 is free", x.wouldGet(0, Hexstead.ORE, 6), 1);
        Hexstead y = Games.deserts();
        y.layHex(0, Hexstead.WOOL, 6);
        y.place(0, 6);
        y.place(2, 8);
        y.place(4, 10);
        y.place(16, 21);
        y.place(13, 18);
        y.place(7, 12);
        for (int player = 0; player < 3; player++) {
            Check.same("37: 0 is the robber's at first", y.wouldGet(player, Hexstead.WOOL, 6), 0);
        }
        y.roll(3, 4);
        y.rob(5, Hexstead.NONE, 0);
        y.endTurn();
        y.roll(1, 5);
        for (int player = 0; player < 3; player++) {
            Check.same("5: 0 bears when the robber has left it", y.hand(player, Hexstead.WOOL), 1);
        }
    }

    /** "one of its good for each house on its corners, two for each city" */
    private static void twoForACity() {
        Hexstead x = Games.deserts();
        x.layHex(1, Hexstead.BRICK, 6);
        x.place(0, 6);
        x.place(2, 8);
        x.place(4, 10);
        x.place(16, 21);
        x.place(13, 18);
        x.place(7, 12);
        x.deal(0, 64000);
        Check.same("37: two houses", x.wouldGet(0, 0, 6), 2);
        x.roll(1, 1);
        x.city(0);
        Check.same("37: a city and a house", x.wouldGet(0, 0, 6), 3);
        x.city(7);
        Check.same("37: two cities", x.wouldGet(0, 0, 6), 4);
        x.endTurn();
        x.roll(3, 3);
        Check.same("5: two cities and the BRICK of the second house", x.hand(0, 0), 5);
        Check.same("24: from the bank", x.hand(3, 0), 7);
    }

    private static void moreHexagonsOfOneNumber() {
        Hexstead x = Games.deserts();
        x.layHex(1, Hexstead.BRICK, 6);
        x.layHex(2, Hexstead.BRICK, 6);
        x.layHex(0, Hexstead.WOOL, 6);
        x.layHex(3, Hexstead.BRICK, 8);
        x.place(1, 0);
        x.place(13, 18);
        x.place(16, 21);
        x.place(19, 24);
        x.place(22, 27);
        x.place(7, 12);
        Check.same("37: one of each hexagon", x.wouldGet(0, 0, 6), 3);
        Check.same("37: but not of the robber's", x.wouldGet(0, 2, 6), 0);
        x.roll(2, 4);
        Check.same("5: one of each hexagon", Games.goods(x, 0), 4);
    }

    /** The hexagons 1 and 3 bear BRICK at 6: 0 has a house there twice, 1 once. 2 has what the bank has not. */
    private static Hexstead threeDue(int left) {
        Hexstead x = Games.deserts();
        x.layHex(1, Hexstead.BRICK, 6);
        x.layHex(3, Hexstead.BRICK, 6);
        x.layHex(4, Hexstead.WOOL, 6);
        x.place(7, 12);
        x.place(13, 18);
        x.place(17, 22);
        x.place(19, 24);
        x.place(22, 27);
        x.place(0, 5);
        x.deal(2, Math.min(9, 11 - left));
        x.deal(2, Math.max(0, 2 - left));
        Check.same("3: a BRICK with the second house", x.hand(0, 0), 1);
        Check.same("24: what the bank has", x.hand(3, 0), left);
        return x;
    }

    private static void yields(String what, Hexstead x, int of0, int of1, int woolOf2) {
        Check.same("37: 0, " + what, x.wouldGet(0, 0, 6), of0);
        Check.same("37: 1, " + what, x.wouldGet(1, 0, 6), of1);
        Check.same("37: 2, " + what, x.wouldGet(2, 2, 6), woolOf2);
        int[] ahead = {x.hand(0, 0), x.hand(1, 0), x.hand(2, 2)};
        x.roll(1, 5);
        Check.same("5: 0, " + what, x.hand(0, 0) - ahead[0], of0);
        Check.same("5: 1, " + what, x.hand(1, 0) - ahead[1], of1);
        Check.same("5: 2, " + what, x.hand(2, 2) - ahead[2], woolOf2);
    }

    private static void allThatTheBankHas() {
        Hexstead x = threeDue(4);
        yields("one more than is due", x, 2, 1, 1);
        Check.same("24: one is left", x.hand(3, 0), 1);
        Hexstead y = threeDue(3);
        yields("just what is due", y, 2, 1, 1);
        Check.same("24: none is left", y.hand(3, 0), 0);
    }

    /** "If all yields of a good together are more than the bank has, nobody gets any of it" */
    private static void moreThanTheBankHas() {
        for (int left = 0; left <= 2; left++) {
            Hexstead x = threeDue(left);
            yields(left + " of three", x, 0, 0, 1);
            Check.same("24: they stay in the bank", x.hand(3, 0), left);
        }
    }

    /** "but if they are due to one player alone, who gets what there is" */
    private static void aloneWithAShortBank() {
        for (int left = 0; left <= 3; left++) {
            Hexstead x = Games.deserts();
            x.layHex(1, Hexstead.BRICK, 6);
            x.layHex(4, Hexstead.WOOL, 6);
            x.place(7, 12);
            x.place(13, 18);
            x.place(17, 22);
            x.place(19, 24);
            x.place(22, 27);
            x.place(0, 5);
            x.deal(1, Math.min(9, 11 - left));
            x.deal(1, Math.max(0, 2 - left));
            Check.same("24: what the bank has", x.hand(3, 0), left);
            yields("two due to 0 alone, of " + left, x, Math.min(2, left), 0, 1);
            Check.same("24: what is left of " + left, x.hand(3, 0), Math.max(0, left - 2));
        }
    }

    /** "of a good": another good of the same sum is borne. */
    private static void shortOfOneGoodOnly() {
        Hexstead x = Games.deserts();
        x.layHex(1, Hexstead.BRICK, 6);
        x.layHex(2, Hexstead.ORE, 6);
        x.place(9, 14);
        x.place(11, 16);
        x.place(13, 18);
        x.place(16, 21);
        x.place(19, 24);
        x.place(22, 27);
        x.deal(2, 90000);
        x.deal(2, 20000);
        Check.same("37: ORE is due to 0 and 1", x.wouldGet(0, Hexstead.ORE, 6) + x.wouldGet(1, Hexstead.ORE, 6), 0);
        Check.same("37: BRICK to 0", x.wouldGet(0, Hexstead.BRICK, 6), 1);
        x.roll(3, 3);
        Check.same("5: BRICK alone", Games.goods(x, 0), 1);
        Check.same("5: nothing", Games.goods(x, 1), 0);
        Check.same("24: the ORE is in the bank", x.hand(3, Hexstead.ORE), 1);
    }

    /** "each player who has more than 7 goods" */
    private static void moreThanSevenGoods() {
        Hexstead x = Games.placedOnDeserts();
        x.deal(0, 7);
        x.deal(1, 70);
        x.deal(2, 11230);
        Check.same("5: 7 each", x.roll(6, 1), Hexstead.ROB);
        for (int player = 0; player < 3; player++) {
            Check.same("26: nothing is due from " + player, x.due(player), 0);
            Hexstead y = Games.placedOnDeserts();
            y.deal(player, 41111);
            Check.same("5: 8 of " + player, y.roll(1, 6), Hexstead.DISCARD);
            Check.same("26: 4 of 8", y.due(player), 4);
            Check.same("26: of the others nothing", y.due((player + 1) % 3) + y.due((player + 2) % 3), 0);
        }
        Hexstead z = Games.placedOnDeserts();
        Check.same("5: nobody has any", z.roll(2, 5), Hexstead.ROB);
        Hexstead w = Games.placedOnDeserts();
        w.deal(1, 99999);
        w.roll(2, 4);
        Check.same("26: not with another sum", w.due(1), 0);
    }

    /** "half of them, rounded down" */
    private static void halfRoundedDown() {
        for (int many = 8; many <= 60; many++) {
            Hexstead x = Games.placedOnDeserts();
            int left = many;
            for (int good = 0, unit = 1; good < 5; good++, unit *= 10) {
                int of = Math.min(12, left);
                x.deal(1, unit * Math.min(9, of));
                x.deal(1, unit * Math.max(0, of - 9));
                left -= of;
            }
            Check.same("5: " + many, x.roll(3, 4), Hexstead.DISCARD);
            Check.same("26: of " + many, x.due(1), many / 2);
        }
    }

    /** "goods are not just as many as are due, or the player does not have them" */
    private static void onlyWhatIsDue() {
        Hexstead x = Games.placedOnDeserts();
        x.deal(1, 333);
        x.deal(2, 7);
        Check.refused("6: ahead of the roll", x, Check.STATE, () -> x.discard(1, 4));
        x.roll(1, 6);
        Check.refused("6: nothing", x, Check.STATE, () -> x.discard(1, 0));
        Check.refused("6: one too few", x, Check.STATE, () -> x.discard(1, 111));
        Check.refused("6: one too many", x, Check.STATE, () -> x.discard(1, 221));
        Check.refused("6: all", x, Check.STATE, () -> x.discard(1, 333));
        Check.refused("6: 4 BRICK of 3", x, Check.STATE, () -> x.discard(1, 4));
        Check.refused("6: a GRAIN of none", x, Check.STATE, () -> x.discard(1, 1111));
        Check.refused("6: of 2, who has 7", x, Check.STATE, () -> x.discard(2, 3));
        Check.refused("6: of 2, nothing", x, Check.STATE, () -> x.discard(2, 0));
        Check.refused("6: of 0, who has none", x, Check.STATE, () -> x.discard(0, 0));
        Check.same("6: all three BRICK", x.discard(1, 103), Hexstead.ROB);
        Check.same("6: what is left", Games.goods(x, 1), 230);
        Check.same("6: into the bank", x.hand(3, 0), 5);
        Check.refused("6: once", x, Check.STATE, () -> x.discard(1, 110));
    }

    /** "then, when all have done so, the player whose turn it is moves the robber" */
    private static void whenAllHaveDoneSo() {
        int[][] orders = {{0, 1, 2}, {0, 2, 1}, {1, 0, 2}, {1, 2, 0}, {2, 0, 1}, {2, 1, 0}};
        for (int[] order : orders) {
            Hexstead x = Games.placedOnDeserts();
            x.deal(0, 8);
            x.deal(1, 90);
            x.deal(2, 52300);
            Games.pass(x);
            x.roll(1, 6);
            for (int i = 0; i < 3; i++) {
                Check.refused("7: not all have done so", x, Check.STATE, () -> x.rob(1, 0, 0));
                int goods = order[i] == 0 ? 4 : order[i] == 1 ? 40 : 12200;
                int due = i < 2 ? Hexstead.DISCARD : Hexstead.ROB;
                Check.same("6: of " + order[i] + " as the one " + i, x.discard(order[i], goods), due);
                Check.same("22: phase", x.phase(), due);
                Check.same("26: done", x.due(order[i]), 0);
                Check.same("23: the turn is still of 1", x.turn(), 1);
            }
            Check.same("7: 1 robs 0", x.rob(1, 0, 3), Hexstead.BRICK);
            Check.same("24: 1 has it", Games.goods(x, 1), 51);
        }
    }

    /** "The robber has to go to another hexagon" */
    private static void anotherHexagon() {
        for (int from = 0; from < 7; from++) {
            for (int to = 0; to < 7; to++) {
                Hexstead x = Games.placedOnDeserts();
                if (from != 0) {
                    x.roll(1, 6);
                    x.rob(from, Hexstead.NONE, 0);
                    x.endTurn();
                }
                x.roll(1, 6);
                int t = to;
                if (from == to) {
                    Check.refused("7: from " + from + " to the same", x, Check.STATE, () -> x.rob(t, Hexstead.NONE, 0));
                } else {
                    Check.same("7: from " + from + " to " + to, x.rob(to, Hexstead.NONE, 0), Hexstead.NONE);
                    Check.same("35: on " + to, x.robber(), to);
                    Check.same("22: then ACT", x.phase(), Hexstead.ACT);
                }
            }
        }
    }

    /** "a victim: another player who has a building on a corner of that hexagon, and some good" */
    private static void victims() {
        // A bit for each player who has a building there.
        int[] onHex = {7, 1, 2, 2, 4, 4, 1};
        for (int hex = 1; hex < 7; hex++) {
            for (int victim = 0; victim < 3; victim++) {
                Hexstead x = Games.placedOnDeserts();
                x.deal(0, 1);
                x.deal(1, 10);
                x.deal(2, 100);
                x.roll(1, 6);
                int h = hex;
                int v = victim;
                boolean may = v != 0 && (onHex[h] >> v & 1) != 0;
                if (may) {
                    Check.same("7: " + v + " on " + h, x.rob(h, v, 0), v);
                    Check.same("24: stolen from " + v, Games.total(x, v), 0);
                    Check.same("24: 0 has it", x.hand(0, v), 1);
                } else {
                    Check.refused("7: " + v + " on " + h, x, Check.STATE, () -> x.rob(h, v, 0));
                }
            }
        }
        Hexstead y = Games.placedOnDeserts();
        y.deal(1, 32000);
        Games.pass(y);
        y.roll(1, 1);
        y.city(13);
        Check.same("24: 1 has paid all", Games.total(y, 1), 0);
        y.endTurn();
        y.roll(1, 6);
        Check.refused("7: a city, but no good", y, Check.STATE, () -> y.rob(3, 1, 0));
        Check.same("7: so there is none", y.rob(3, Hexstead.NONE, 0), Hexstead.NONE);
        Hexstead z = Games.placedOnDeserts();
        z.deal(1, 42000);
        Games.pass(z);
        z.roll(1, 1);
        z.city(13);
        z.endTurn();
        z.roll(1, 6);
        Check.refused("7: a city, and a good", z, Check.STATE, () -> z.rob(3, Hexstead.NONE, 0));
        Check.same("7: the last good of a city's owner", z.rob(3, 1, 999), Hexstead.ORE);
    }

    /** "without such players there is no victim (NONE)" */
    private static void noVictim() {
        for (int hex = 1; hex < 7; hex++) {
            int h = hex;
            Hexstead x = Games.placedOnDeserts();
            x.deal(0, 7);
            x.roll(1, 6);
            Check.same("7: nobody else has any good, " + h, x.rob(h, Hexstead.NONE, 5), Hexstead.NONE);
            Check.same("24: nothing has moved", x.hand(0, 0), 7);
            Hexstead y = Games.placedOnDeserts();
            y.deal(1, 1);
            y.deal(2, 1);
            y.roll(1, 6);
            boolean others = h >= 2 && h <= 5;
            if (others) {
                Check.refused("7: somebody has, " + h, y, Check.STATE, () -> y.rob(h, Hexstead.NONE, 5));
            } else {
                Check.same("7: nobody else has a building, " + h, y.rob(h, Hexstead.NONE, 5), Hexstead.NONE);
            }
        }
    }

    /** "all BRICK first, then all WOOD and so on, counted from 0, the one at the remainder of the draw" */
    private static void draws() {
        for (int good = 0, unit = 1; good < 5; good++, unit *= 10) {
            int[] ends = {0, 1, 500, 998, 999};
            for (int draw : ends) {
                Hexstead x = Games.placedOnDeserts();
                x.deal(1, unit);
                x.roll(1, 6);
                Check.same("7: the only good, draw " + draw, x.rob(3, 1, draw), good);
            }
        }
        int[] row = {0, 1, 1, 2, 2, 3, 4};
        for (int draw = 0; draw <= 999; draw++) {
            Hexstead x = Games.placedOnDeserts();
            x.deal(1, 11221);
            x.roll(1, 6);
            int due = row[draw % 7];
            Check.same("7: of seven, draw " + draw, x.rob(3, 1, draw), due);
            Check.same("24: one of them, draw " + draw, x.hand(0, due) * 10 + Games.total(x, 1), 16);
        }
    }

    /** "An object is used for at most 512 calls": the last of them is answered as the first. */
    private static void fullOfCalls() {
        Hexstead x = new Hexstead();
        x.place(0, 6);
        x.place(2, 8);
        x.place(4, 10);
        x.place(16, 21);
        x.place(13, 18);
        x.place(7, 12);
        for (int made = 6; made < 510; made += 2) {
            x.roll(6, 6);
            x.endTurn();
        }
        Check.same("5: the 511th call", x.roll(2, 4), Hexstead.ACT);
        Check.same("24: the 512th call", x.hand(0, Hexstead.BRICK), 3);
    }

    /** Goods that move in nearly every one of 512 calls are counted the same in both ways. */
    private static void fullOfMoves() {
        Hexstead x = Games.deserts();
        x.place(0, 6);
        x.place(2, 8);
        x.place(4, 10);
        x.place(16, 21);
        x.place(13, 18);
        x.place(7, 12);
        x.deal(0, 99999);
        x.deal(1, 33333);
        x.roll(1, 1);
        for (int made = 16; made < 508; made += 4) {
            x.offer(99999, 33333);
            x.accept(1);
            x.offer(33333, 99999);
            x.accept(1);
        }
        Check.same("24: back at 0", x.hand(0, Hexstead.ORE), 9);
        Check.same("25: back at 0, by moves", x.handByMoves(0, Hexstead.ORE), 9);
        Check.same("25: back at 1, by moves", x.handByMoves(1, Hexstead.ORE), 3);
        Check.same("25: the bank has none, by moves", x.handByMoves(3, Hexstead.ORE), 0);
    }

    /** "whoever's turn it is" */
    private static void wouldGetForAll() {
        Hexstead x = Games.placed();
        for (int turn = 0; turn < 4; turn++) {
            Check.same("37: 0 in turn " + turn, x.wouldGet(0, Hexstead.BRICK, 6), 2);
            Check.same("37: 1 in turn " + turn, x.wouldGet(1, Hexstead.WOOL, 9), 2);
            Check.same("37: 2 in turn " + turn, x.wouldGet(2, Hexstead.GRAIN, 4), 2);
            x.roll(1, 1);
            Check.same("37: behind the roll, too", x.wouldGet(2, Hexstead.GRAIN, 4), 2);
            x.endTurn();
        }
        Hexstead y = new Hexstead();
        y.place(7, 12);
        Check.same("37: while they place", y.wouldGet(0, Hexstead.BRICK, 6), 1);
        for (int player = 0; player < 3; player++) {
            for (int good = 0; good < 5; good++) {
                Check.same("37: the sum 7", x.wouldGet(player, good, 7), 0);
            }
        }
    }
}
