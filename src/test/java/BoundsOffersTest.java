/** The paragraph on offers, and promises 16 to 20: each sentence that names a bound. */
final class BoundsOffersTest {
    /** The player whose turn it is: each one in turn. */
    private static int me = 0;

    private BoundsOffersTest() {
    }

    public static void main(String[] args) {
        for (me = 0; me < 3; me++) {
            fourForOne();
            swapFromAShortBank();
            swapOfEveryPair();
            oneGoodIsASide();
            upToAllThatOneHas();
            moreThanTheOthersHave();
            offerInPlaceOfTheLast();
            refusedOneLeavesTheLast();
            counterOnlyToAnOffer();
            counterOfEachPlayer();
            counterInPlaceOfAnOwnOne();
            acceptWithJustTheGoods();
            agreeWithJustTheGoods();
            offererHasItNoMore();
            hasItAgain();
            sameGoodOnBothSides();
            allGoneBehindAccepting();
            allGoneBehindAgreeing();
            allGoneAtTheEndOfATurn();
            onlyTheOneWhoseTurnItIs();
            cardsLeaveOffers();
        }
        threeForOne();
        twoForOne();
        Check.end();
    }

    private static int next() {
        return (me + 1) % 3;
    }

    private static int last() {
        return (me + 2) % 3;
    }

    /** All is desert; I have BRICK's harbour, the next one WOOL's, the last one GRAIN's. I have rolled. */
    private static Hexstead market(int mine, int ofNext, int ofLast) {
        Hexstead x = Games.placedFor(me);
        x.deal(me, mine);
        x.deal(next(), ofNext);
        x.deal(last(), ofLast);
        Games.passTo(x, me);
        x.roll(1, 1);
        return x;
    }

    // ---- with the bank

    /** "without harbours, 4" */
    private static void fourForOne() {
        Hexstead x = market(40, 0, 0);
        Check.same("16: four WOOD", x.swap(Hexstead.WOOD, Hexstead.ORE), 1);
        Check.same("24: are all", Games.goods(x, me), 10000);
        Check.same("24: in the bank", x.hand(3, Hexstead.WOOD) * 100 + x.hand(3, Hexstead.ORE), 1211);
        Hexstead y = market(30, 0, 0);
        Check.refused("16: three WOOD", y, Check.STATE, () -> y.swap(Hexstead.WOOD, Hexstead.ORE));
        Hexstead z = market(39999, 0, 0);
        Check.refused("16: three ORE, whatever else", z, Check.STATE, () -> z.swap(Hexstead.ORE, Hexstead.BRICK));
    }

    /** "at the harbour 5, 3 of any" */
    private static void threeForOne() {
        for (int good = 0, unit = 1; good < 5; good++, unit *= 10) {
            for (int many = 2; many <= 4; many++) {
                Hexstead x = Games.deserts();
                x.place(22, 27);
                x.place(2, 8);
                x.place(4, 10);
                x.place(16, 21);
                x.place(13, 18);
                x.place(0, 5);
                x.deal(0, many * unit);
                x.roll(1, 1);
                int give = good;
                int want = (good + 1) % 5;
                if (many < 3) {
                    Check.refused("16: two of " + give, x, Check.STATE, () -> x.swap(give, want));
                } else {
                    Check.same("16: three of " + give, x.swap(give, want), 1);
                    Check.same("24: what is left of " + many, x.hand(0, give), many - 3);
                }
            }
        }
    }

    /** "swaps 2 of the good k for one" */
    private static void twoForOne() {
        int[] corners = {7, 10, 13, 16, 19};
        int[] edges = {12, 15, 18, 21, 24};
        for (int good = 0, unit = 1; good < 5; good++, unit *= 10) {
            for (int many = 1; many <= 3; many++) {
                Hexstead x = Games.deserts();
                x.place(corners[good], edges[good]);
                x.place(1, 0);
                x.place(corners[(good + 1) % 5], edges[(good + 1) % 5]);
                x.place(corners[(good + 2) % 5], edges[(good + 2) % 5]);
                x.place(corners[(good + 3) % 5], edges[(good + 3) % 5]);
                x.place(4, 4);
                x.deal(0, many * unit);
                x.roll(1, 1);
                int give = good;
                int want = (good + 2) % 5;
                if (many < 2) {
                    Check.refused("16: one of " + give, x, Check.STATE, () -> x.swap(give, want));
                } else {
                    Check.same("16: two of " + give, x.swap(give, want), 1);
                    Check.same("24: what is left of " + many, x.hand(0, give), many - 2);
                }
            }
        }
    }

    private static void swapFromAShortBank() {
        Hexstead x = market(4, 90000, 20000);
        Check.same("24: the bank has one ORE", x.hand(3, Hexstead.ORE), 1);
        Check.same("16: the last one", x.swap(Hexstead.BRICK, Hexstead.ORE), 1);
        Check.refused("16: one of none", x, Check.STATE, () -> x.swap(Hexstead.BRICK, Hexstead.ORE));
        Check.same("16: of another good", x.swap(Hexstead.BRICK, Hexstead.GRAIN), 1);
        Check.refused("16: no BRICK is left", x, Check.STATE, () -> x.swap(Hexstead.BRICK, Hexstead.GRAIN));
    }

    /** "how many of the other good the player has then" */
    private static void swapOfEveryPair() {
        for (int give = 0; give < 5; give++) {
            for (int want = 0; want < 5; want++) {
                if (give != want) {
                    Hexstead x = market(44444, 0, 0);
                    Check.same("16: " + give + " for " + want, x.swap(give, want), 5);
                    Check.same("24: the price of " + give, x.hand(me, give), give == Hexstead.BRICK ? 2 : 0);
                    Check.same("25: the price by moves", x.handByMoves(me, give), give == Hexstead.BRICK ? 2 : 0);
                    Check.same("25: the good by moves", x.handByMoves(3, want), 7);
                }
            }
        }
    }

    // ---- sides

    /** "not 0" */
    private static void oneGoodIsASide() {
        Hexstead x = market(1, 10000, 0);
        Check.refused("17: giving nothing", x, Check.ARGUMENT, () -> x.offer(0, 10000));
        Check.refused("17: wanting nothing", x, Check.ARGUMENT, () -> x.offer(1, 0));
        Check.refused("17: nothing for nothing", x, Check.ARGUMENT, () -> x.offer(0, 0));
        x.offer(1, 10000);
        Check.refused("18: giving nothing", x, Check.ARGUMENT, () -> x.counter(next(), 0, 1));
        Check.refused("18: wanting nothing", x, Check.ARGUMENT, () -> x.counter(next(), 10000, 0));
        x.counter(next(), 10000, 1);
        Check.same("20: one for one", x.agree(next()), 1);
        Check.same("24: changed hands", Games.goods(x, me) + Games.goods(x, next()), 10001);
        Check.same("24: the ORE", x.hand(me, Hexstead.ORE), 1);
    }

    /** "does not have what is offered" */
    private static void upToAllThatOneHas() {
        Hexstead x = market(12345, 54321, 0);
        for (int unit = 1; unit <= 10000; unit *= 10) {
            int one = unit;
            Check.refused("17: one more than 12345, " + one, x, Check.STATE, () -> x.offer(12345 + one, 1));
        }
        x.offer(12345, 54321);
        for (int unit = 1; unit <= 10000; unit *= 10) {
            int one = unit;
            Check.refused("18: one more than 54321, " + one, x, Check.STATE, () -> x.counter(next(), 54321 + one, 1));
        }
        x.counter(next(), 54321, 12345);
        Check.same("19: all for all", x.accept(next()), 15);
        Check.same("24: changed", Games.goods(x, me), 54321);
        Check.same("24: changed", Games.goods(x, next()), 12345);
    }

    /** What is wanted need not be there yet. */
    private static void moreThanTheOthersHave() {
        Hexstead x = market(1, 10, 0);
        x.offer(1, 99999);
        Check.refused("19: nobody has that", x, Check.STATE, () -> x.accept(next()));
        Check.refused("19: nobody has that", x, Check.STATE, () -> x.accept(last()));
        x.counter(next(), 10, 99999);
        Check.refused("20: nor have I", x, Check.STATE, () -> x.agree(next()));
        x.counter(next(), 10, 1);
        Check.same("20: that I have", x.agree(next()), 1);
    }

    // ---- in place of others

    /** "in place of an offer and all counter-offers made ahead of it" */
    private static void offerInPlaceOfTheLast() {
        Hexstead x = market(11, 1100, 10000);
        x.offer(1, 100);
        x.counter(next(), 1000, 1);
        x.counter(last(), 10000, 1);
        x.offer(10, 1000);
        Check.refused("20: of the next one", x, Check.STATE, () -> x.agree(next()));
        Check.refused("20: of the last one", x, Check.STATE, () -> x.agree(last()));
        x.accept(next());
        Check.same("19: the last one", Games.goods(x, me), 1001);
        Hexstead y = market(11, 1100, 10000);
        y.offer(1, 100);
        y.counter(next(), 1000, 1);
        y.offer(1, 100);
        Check.refused("20: the same offer once more", y, Check.STATE, () -> y.agree(next()));
        y.counter(next(), 100, 10);
        Check.same("18: to the last one", y.agree(next()), 2);
    }

    private static void refusedOneLeavesTheLast() {
        Hexstead x = market(11, 1100, 10000);
        x.offer(1, 100);
        x.counter(last(), 10000, 10);
        Check.refused("17: has it not", x, Check.STATE, () -> x.offer(100, 1));
        Check.refused("17: nothing", x, Check.ARGUMENT, () -> x.offer(0, 1));
        Check.refused("18: has it not", x, Check.STATE, () -> x.counter(last(), 1, 1));
        Check.refused("18: nothing", x, Check.ARGUMENT, () -> x.counter(last(), 1, 0));
        Check.refused("19: has it not", x, Check.STATE, () -> x.accept(last()));
        Check.refused("20: none made", x, Check.STATE, () -> x.agree(next()));
        Check.same("20: it stands", x.agree(last()), 2);
        Check.same("24: as it was", Games.goods(x, me), 10001);
        Hexstead y = market(11, 1100, 10000);
        y.offer(1, 100);
        Check.refused("17: has it not", y, Check.STATE, () -> y.offer(2, 100));
        Check.refused("21: not the time", y, Check.STATE, () -> y.roll(1, 1));
        Check.same("19: it stands", y.accept(next()), 2);
        Check.same("24: as it was", Games.goods(y, me), 110);
    }

    /** "if there is no offer" */
    private static void counterOnlyToAnOffer() {
        Hexstead x = market(1, 10, 0);
        Check.refused("18: none yet", x, Check.STATE, () -> x.counter(next(), 10, 1));
        Check.refused("19: none yet", x, Check.STATE, () -> x.accept(next()));
        Check.refused("20: none yet", x, Check.STATE, () -> x.agree(next()));
        x.offer(1, 100);
        Check.refused("20: an offer alone", x, Check.STATE, () -> x.agree(next()));
        x.counter(next(), 10, 1);
        Check.same("20: a counter-offer", x.agree(next()), 1);
    }

    private static void counterOfEachPlayer() {
        Hexstead x = market(11, 10, 100);
        x.offer(1, 10000);
        x.counter(next(), 10, 1);
        x.counter(last(), 100, 10);
        Check.refused("20: I made none", x, Check.STATE, () -> x.agree(me));
        Check.same("20: of the last one, not of the next one", x.agree(last()), 2);
        Check.same("24: what that one gave", Games.goods(x, me), 101);
        Hexstead y = market(11, 10, 100);
        y.offer(1, 10000);
        y.counter(last(), 100, 10);
        y.counter(next(), 10, 1);
        Check.refused("18: a refused one of the last one", y, Check.STATE, () -> y.counter(last(), 200, 10));
        Check.same("20: of the next one, not of the last one", y.agree(next()), 2);
        Check.same("24: what that one gave", Games.goods(y, me), 20);
    }

    /** "in place of an own one" */
    private static void counterInPlaceOfAnOwnOne() {
        Hexstead x = market(3, 30, 10000);
        x.offer(1, 100);
        x.counter(last(), 10000, 1);
        x.counter(next(), 10, 3);
        x.counter(next(), 30, 1);
        Check.same("20: the second one of the next one", x.agree(next()), 5);
        Check.same("24: 3 WOOD for a BRICK", Games.goods(x, me), 32);
        Hexstead y = market(3, 30, 10000);
        y.offer(1, 100);
        y.counter(last(), 10000, 1);
        y.counter(next(), 10, 3);
        y.counter(next(), 30, 1);
        Check.same("20: that of the last one is another one", y.agree(last()), 3);
    }

    // ---- striking the bargain

    /** "Both have to have what they give, then" */
    private static void acceptWithJustTheGoods() {
        int[] shortOf = {12344, 12335, 12245, 11345, 2345};
        for (int goods : shortOf) {
            Hexstead x = market(1, goods, 12345);
            x.offer(1, 12345);
            Check.refused("19: with " + goods, x, Check.STATE, () -> x.accept(next()));
            Check.same("19: with all", x.accept(last()), 1);
            Check.same("24: the last one has given all", Games.goods(x, last()), 1);
            Check.same("24: I have all", Games.goods(x, me), 12345);
        }
    }

    private static void agreeWithJustTheGoods() {
        int[] shortOf = {12344, 12335, 12245, 11345, 2345};
        for (int goods : shortOf) {
            Hexstead x = market(goods, 0, 10);
            x.offer(goods, 1);
            x.counter(last(), 10, 12345);
            Check.refused("20: with " + goods, x, Check.STATE, () -> x.agree(last()));
        }
        Hexstead y = market(12345, 0, 10);
        y.offer(1, 1);
        y.counter(last(), 10, 12345);
        Check.same("20: with all", y.agree(last()), 1);
        Check.same("24: the last one has all", Games.goods(y, last()), 12345);
        Check.same("24: I have what was given", Games.goods(y, me), 10);
    }

    private static void offererHasItNoMore() {
        Hexstead x = market(2, 10, 0);
        x.offer(1, 10);
        x.counter(next(), 10, 1);
        x.swap(Hexstead.BRICK, Hexstead.WOOL);
        Check.refused("19: I have no BRICK any more", x, Check.STATE, () -> x.accept(next()));
        Check.refused("20: I have no BRICK any more", x, Check.STATE, () -> x.agree(next()));
        Hexstead y = withMonopoly(1, 10);
        y.offer(1, 10);
        y.counter(next(), 10, 1);
        y.monopoly(Hexstead.WOOD);
        Check.refused("19: the next one has no WOOD any more", y, Check.STATE, () -> y.accept(next()));
        Check.refused("20: the next one has no WOOD any more", y, Check.STATE, () -> y.agree(next()));
    }

    private static Hexstead withMonopoly(int mine, int ofNext) {
        Hexstead x = Games.placedFor(me);
        x.deal(me, 66600);
        x.deal(me, mine);
        x.deal(next(), ofNext);
        Games.passTo(x, me);
        x.roll(1, 1);
        for (int i = 0; i < 6; i++) {
            x.buy();
        }
        x.endTurn();
        Games.pass(x);
        Games.pass(x);
        x.roll(1, 1);
        return x;
    }

    /** A refused bargain stands, and can be struck when both have the goods again. */
    private static void hasItAgain() {
        Hexstead x = market(42, 10, 0);
        x.offer(2, 10);
        x.counter(next(), 10, 2);
        x.swap(Hexstead.BRICK, Hexstead.ORE);
        Check.refused("19: no BRICK", x, Check.STATE, () -> x.accept(next()));
        Check.refused("20: no BRICK", x, Check.STATE, () -> x.agree(next()));
        x.swap(Hexstead.WOOD, Hexstead.BRICK);
        Check.refused("19: one BRICK of two", x, Check.STATE, () -> x.accept(next()));
        Check.refused("20: one BRICK of two", x, Check.STATE, () -> x.agree(next()));
        Hexstead y = market(44, 10, 0);
        y.offer(4, 10);
        y.swap(Hexstead.BRICK, Hexstead.ORE);
        Check.refused("19: two BRICK of four", y, Check.STATE, () -> y.accept(next()));
        Hexstead z = market(42, 10, 0);
        z.offer(1, 10);
        z.counter(next(), 10, 1);
        z.swap(Hexstead.BRICK, Hexstead.ORE);
        Check.refused("19: no BRICK", z, Check.STATE, () -> z.accept(next()));
        z.swap(Hexstead.WOOD, Hexstead.BRICK);
        Check.same("19: a BRICK again", z.accept(next()), 1);
    }

    /** What one gets does not help to have what one gives. */
    private static void sameGoodOnBothSides() {
        Hexstead x = market(2, 0, 1);
        x.offer(2, 1);
        Check.refused("19: the next one has no BRICK to give", x, Check.STATE, () -> x.accept(next()));
        Check.same("19: two for one", x.accept(last()), 2);
        Check.same("24: I have the one", Games.goods(x, me), 1);
        Hexstead y = market(1, 4, 0);
        y.offer(1, 3);
        y.counter(next(), 2, 2);
        Check.refused("20: I have one BRICK to give, not two", y, Check.STATE, () -> y.agree(next()));
        Check.same("19: one for three", y.accept(next()), 2);
        Check.same("24: I have three", Games.goods(y, me), 3);
    }

    /** "goods change hands, and the offer and all counter-offers are gone" */
    private static void allGoneBehindAccepting() {
        Hexstead x = market(3, 30, 300);
        x.offer(1, 10);
        x.counter(next(), 10, 1);
        x.counter(last(), 100, 1);
        Check.same("19: how many the next one has", x.accept(next()), 3);
        gone("behind accepting", x);
    }

    private static void gone(String when, Hexstead x) {
        int first = (x.turn() + 1) % 3;
        int second = (x.turn() + 2) % 3;
        Check.refused("19: gone " + when, x, Check.STATE, () -> x.accept(first));
        Check.refused("19: gone " + when, x, Check.STATE, () -> x.accept(second));
        Check.refused("20: gone " + when, x, Check.STATE, () -> x.agree(first));
        Check.refused("20: gone " + when, x, Check.STATE, () -> x.agree(second));
        for (int player = 0; player < 3; player++) {
            int p = player;
            int some = Games.goods(x, p);
            Check.refused("18: gone " + when, x, Check.STATE, () -> x.counter(p, some == 0 ? 1 : some, 1));
        }
    }

    private static void allGoneBehindAgreeing() {
        Hexstead x = market(3, 30, 300);
        x.offer(1, 10);
        x.counter(next(), 10, 1);
        x.counter(last(), 100, 1);
        Check.same("20: how many I have", x.agree(last()), 3);
        gone("behind agreeing", x);
        x.offer(1, 10);
        Check.refused("20: a new offer brings none back", x, Check.STATE, () -> x.agree(next()));
    }

    /** "At the end of a turn they are gone, too." */
    private static void allGoneAtTheEndOfATurn() {
        Hexstead x = market(3, 30, 300);
        x.offer(1, 10);
        x.counter(next(), 10, 1);
        x.counter(last(), 100, 1);
        x.endTurn();
        gone("ahead of rolling", x);
        x.roll(1, 1);
        gone("in the next turn", x);
        x.offer(10, 1);
        Check.refused("20: a new offer brings none back", x, Check.STATE, () -> x.agree(last()));
        Check.refused("20: nor an own one", x, Check.STATE, () -> x.agree(next()));
        Check.same("19: the new one", x.accept(me), 3);
    }

    /** "Another player can accept, or make a counter-offer"; "it is the turn of this player" */
    private static void onlyTheOneWhoseTurnItIs() {
        Hexstead x = market(2, 2, 2);
        x.offer(1, 1);
        Check.refused("18: my own", x, Check.STATE, () -> x.counter(me, 1, 1));
        Check.refused("19: my own", x, Check.STATE, () -> x.accept(me));
        Check.refused("20: my own", x, Check.STATE, () -> x.agree(me));
        x.counter(next(), 1, 2);
        x.counter(last(), 2, 1);
        Check.same("20: how many I have", x.agree(last()), 3);
        x.offer(1, 2);
        Check.same("19: how many the next one has", x.accept(next()), 1);
        Check.same("24: what I have", x.hand(me, Hexstead.BRICK), 4);
    }

    /** Only accepting, agreeing, an offer and the end of the turn do away with an offer. */
    private static void cardsLeaveOffers() {
        Hexstead x = withMonopoly(33, 110);
        x.offer(1, 100);
        x.counter(next(), 10, 1);
        x.road(13);
        x.swap(Hexstead.BRICK, Hexstead.ORE);
        x.monopoly(Hexstead.BRICK);
        Check.refused("19: no BRICK is left", x, Check.STATE, () -> x.accept(next()));
        Hexstead y = withMonopoly(33, 110);
        y.offer(1, 100);
        y.counter(next(), 10, 1);
        y.road(13);
        y.knight(2, next(), 0);
        Check.same("24: the WOOD is stolen", y.hand(next(), Hexstead.WOOD), 0);
        Check.refused("20: the next one has no WOOD any more", y, Check.STATE, () -> y.agree(next()));
        Check.same("19: but WOOL for the offer", y.accept(next()), 1);
    }
}
