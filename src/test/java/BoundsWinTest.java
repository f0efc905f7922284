/**
 * "The player who has 8 points or more in the own turn, also at its beginning, has won, as soon as that is so, and the
 * game is over.", and what each of the points is.
 */
final class BoundsWinTest {
    /** The player who wins: each one in turn. */
    private static int me = 0;

    private BoundsWinTest() {
    }

    public static void main(String[] args) {
        for (me = 0; me < 3; me++) {
            sixAndTheTrailByARoad();
            sevenAndTheTrailByARoad();
            sevenAndAHouse();
            sevenAndACity();
            sevenAndACard();
            sixAndTheArmyAheadOfRolling();
            sixAndTheArmyBehindRolling();
            sixAndTheTrailByACard();
        }
        notInTheTurnOfAnother();
        atTheBeginningOfTheOwnTurn();
        notIfThePointsAreGoneByThen();
        Check.end();
    }

    /** I have 0 and 7 with 6 and 12, and the goods that are told, to which some more may be dealt. */
    private static Hexstead with(int goods, int more) {
        Hexstead x = Games.placedFor(me);
        x.deal(me, goods);
        x.deal(me, more);
        Games.passTo(x, me);
        x.roll(1, 1);
        return x;
    }

    private static void build(Hexstead x, int... edges) {
        for (int edge : edges) {
            x.road(edge);
        }
    }

    private static void notYet(Hexstead x, int player, int points) {
        Check.same("27: points", x.points(player), points);
        Check.same("22: not over with " + points, x.phase(), Hexstead.ACT);
    }

    private static void won(String how, Hexstead x, int player, int points) {
        Check.same("27: points of the winner, " + how, x.points(player), points);
        Check.same("22: over, " + how, x.phase(), Hexstead.OVER);
        Check.same("23: the winner, " + how, x.turn(), player);
        Check.refused("5: " + how, x, Check.STATE, () -> x.roll(1, 1));
        Check.refused("21: " + how, x, Check.STATE, x::endTurn);
        Check.refused("8: " + how, x, Check.STATE, () -> x.road(16));
        Check.refused("11: " + how, x, Check.STATE, x::buy);
        Check.refused("16: " + how, x, Check.STATE, () -> x.swap(0, 1));
    }

    private static void sixAndTheTrailByARoad() {
        Hexstead x = with(99999, 0);
        build(x, 13, 14);
        x.house(9);
        x.city(0);
        x.city(7);
        Check.same("10: three cities", x.city(9), 6);
        notYet(x, me, 6);
        Check.same("8: the fifth of the trail", x.road(15), 5);
        won("by a road", x, me, 8);
        Check.same("24: it is paid", x.hand(me, 0), 5);
    }

    /** "8 points or more" */
    private static void sevenAndTheTrailByARoad() {
        Hexstead x = with(99999, 0);
        build(x, 13, 14, 29);
        x.house(9);
        x.house(23);
        x.city(0);
        x.city(7);
        Check.same("10: three cities and a house", x.city(9), 7);
        notYet(x, me, 7);
        x.endTurn();
        Games.pass(x);
        Games.pass(x);
        Check.same("22: nor at the beginning of the next turn", x.phase(), Hexstead.ROLL);
        x.roll(1, 1);
        x.road(15);
        won("with more than 8", x, me, 9);
    }

    private static Hexstead seven() {
        Hexstead x = with(99999, 33333);
        build(x, 13, 14, 15, 29);
        x.house(9);
        x.city(0);
        Check.same("10: two cities, a house and the trail", x.city(7), 7);
        notYet(x, me, 7);
        return x;
    }

    private static void sevenAndAHouse() {
        Hexstead x = seven();
        Check.same("9: the eighth", x.house(23), 8);
        won("by a house", x, me, 8);
    }

    private static void sevenAndACity() {
        Hexstead x = seven();
        Check.same("10: the eighth", x.city(9), 8);
        won("by a city", x, me, 8);
    }

    private static void sevenAndACard() {
        Hexstead x = seven();
        Check.same("11: a KNIGHT is no point", x.buy(), Hexstead.KNIGHT);
        notYet(x, me, 7);
        Check.same("11: a POINT is one", x.buy(), Hexstead.POINT);
        won("by buying", x, me, 8);
    }

    /** I have two KNIGHTs used, and a third one, and six points, and am to roll. */
    private static Hexstead beforeTheArmy() {
        Hexstead x = with(99999, 3333);
        for (int i = 0; i < 7; i++) {
            x.buy();
        }
        build(x, 13, 14, 15);
        Check.same("9: three houses, a POINT and the trail", x.house(9), 6);
        for (int round = 0; round < 2; round++) {
            x.endTurn();
            Games.pass(x);
            Games.pass(x);
            x.knight(1 + 5 * round, Hexstead.NONE, 0);
            Check.same("30: two are no army", x.holder(true), Hexstead.NONE);
            x.roll(1, 1);
            notYet(x, me, 6);
        }
        x.endTurn();
        Games.pass(x);
        Games.pass(x);
        return x;
    }

    private static void sixAndTheArmyAheadOfRolling() {
        Hexstead x = beforeTheArmy();
        Check.same("22: not over", x.phase(), Hexstead.ROLL);
        x.knight(1, Hexstead.NONE, 0);
        Check.same("30: three are", x.holder(true), me);
        won("by a KNIGHT ahead of rolling", x, me, 8);
        Check.same("35: the robber has moved", x.robber(), 1);
    }

    private static void sixAndTheArmyBehindRolling() {
        Hexstead x = beforeTheArmy();
        x.roll(1, 1);
        x.knight(1, Hexstead.NONE, 0);
        won("by a KNIGHT behind rolling", x, me, 8);
    }

    private static void sixAndTheTrailByACard() {
        Hexstead x = with(99999, 0);
        x.buy();
        x.buy();
        x.buy();
        x.road(13);
        x.road(29);
        x.house(23);
        x.city(0);
        Check.same("10: two cities, a house and a POINT", x.city(7), 6);
        x.endTurn();
        Games.pass(x);
        Games.pass(x);
        x.roll(1, 1);
        notYet(x, me, 6);
        Check.same("13: two roads make five", x.roads(14, 15), 5);
        won("by ROADS", x, me, 8);
        Check.same("34: both lie", x.roadAt(14) * 10 + x.roadAt(15), 11 * me);
    }

    /** 0 has three cities and a trail of 5, 2 one of 6; 1 can part that by a house at 15, and has goods for more. */
    private static Hexstead beforeParting() {
        Hexstead x = Games.deserts();
        x.place(7, 12);
        x.place(4, 3);
        x.place(13, 18);
        x.place(17, 22);
        x.place(0, 5);
        x.place(9, 15);
        x.deal(0, 97144);
        x.deal(1, 5544);
        x.deal(2, 44);
        Games.pass(x);
        Games.pass(x);
        x.roll(1, 1);
        build(x, 19, 20, 21, 23);
        x.endTurn();
        x.roll(1, 1);
        build(x, 13, 14, 16);
        x.house(11);
        x.city(7);
        x.city(9);
        x.city(11);
        notYet(x, 0, 6);
        x.endTurn();
        x.roll(1, 1);
        x.road(9);
        Check.same("9: 1 gets nothing but the house", x.house(15), 3);
        return x;
    }

    /** "in the own turn" */
    private static void notInTheTurnOfAnother() {
        Hexstead x = beforeParting();
        notYet(x, 0, 8);
        Check.same("23: the turn is 1's", x.turn(), 1);
        Check.same("8: 1 goes on", x.road(4), 4);
        Check.same("21: then 2", x.endTurn(), 2);
        Check.same("22: not over in the turn of 2", x.phase(), Hexstead.ROLL);
        x.roll(1, 1);
        notYet(x, 0, 8);
    }

    /** "also at its beginning" */
    private static void atTheBeginningOfTheOwnTurn() {
        Hexstead x = beforeParting();
        x.endTurn();
        x.roll(1, 1);
        Check.same("21: the winner", x.endTurn(), 0);
        won("at the beginning of a turn", x, 0, 8);
    }

    private static void notIfThePointsAreGoneByThen() {
        Hexstead x = beforeParting();
        Check.same("30: 0 holds it", x.holder(false), 0);
        x.road(4);
        x.road(6);
        Check.same("30: 1 with five, too, does not change that", x.holder(false), 0);
        x.swap(Hexstead.GRAIN, Hexstead.BRICK);
        x.swap(Hexstead.WOOL, Hexstead.WOOD);
        Check.same("8: six of 1", x.road(29), 6);
        Check.same("30: 1 holds it", x.holder(false), 1);
        Check.same("27: 0 has six again", x.points(0), 6);
        x.endTurn();
        x.roll(1, 1);
        Check.same("21: then 0", x.endTurn(), 0);
        Check.same("22: not over", x.phase(), Hexstead.ROLL);
    }
}
