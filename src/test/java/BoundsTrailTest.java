/** The paragraph on trails, and promises 28 to 30 for the longest trail: each of its bounds. */
final class BoundsTrailTest {
    private BoundsTrailTest() {
    }

    public static void main(String[] args) {
        noRoadAndOneRoad();
        apartAndJoined();
        threeRoadsAtACorner();
        throughOwnBuildings();
        toAStrangersBuildingButNotThrough();
        aStrangersCityToo();
        towardsTwoStrangers();
        ringAndTails();
        ringThroughAStranger();
        tailsOnBothSidesOfAStranger();
        fourIsTooFew();
        theSameLengthIsNotMore();
        holderStaysWithALengthThatOthersHaveToo();
        justOneOtherHasIt();
        houseAtTheEndOfTheTrail();
        houseThatPartsItToFour();
        nobodyInATieAndTheNextOneWhoHasMore();
        builderOfTheHouseGetsIt();
        bothRoadsOfACard();
        Check.end();
    }

    /** Others are asked for in between, as what is found for them must not be taken for this player's. */
    private static void trails(String what, Hexstead x, int player, int due) {
        x.trail((player + 1) % 3);
        Check.same("29: " + what, x.trailBySets(player), due);
        x.trailBySets((player + 2) % 3);
        Check.same("28: " + what, x.trail(player), due);
    }

    private static void build(Hexstead x, int... edges) {
        for (int edge : edges) {
            x.road(edge);
        }
    }

    private static void next(Hexstead x) {
        x.endTurn();
        x.roll(1, 1);
    }

    private static void noRoadAndOneRoad() {
        Hexstead x = Games.deserts();
        for (int player = 0; player < 3; player++) {
            trails("no road", x, player, 0);
        }
        x.place(7, 12);
        trails("one road", x, 0, 1);
        trails("no road beside it", x, 1, 0);
        trails("no road beside it", x, 2, 0);
    }

    private static void apartAndJoined() {
        Hexstead x = Games.race();
        trails("two roads apart", x, 0, 1);
        x.roll(1, 1);
        Check.same("8: of three roads one is apart", x.road(14), 2);
        trails("of three roads one is apart", x, 0, 2);
        Check.same("8: joined", x.road(13), 4);
        trails("joined", x, 0, 4);
    }

    /** "a row of different roads ..., each of which shares a corner with the next one, so that one goes along all" */
    private static void threeRoadsAtACorner() {
        Hexstead x = Games.placedOnDeserts();
        x.deal(0, 22);
        x.roll(1, 1);
        trails("6 and 12 meet at 6", x, 0, 2);
        Check.same("8: three at the corner 6", x.road(29), 2);
        trails("three at the corner 6", x, 0, 2);
        Check.same("8: one of them goes on", x.road(28), 3);
        trails("one of them goes on", x, 0, 3);
    }

    /** "a building of somebody else": own ones do not matter. */
    private static void throughOwnBuildings() {
        for (int player = 0; player < 3; player++) {
            Hexstead x = Games.placedFor(player);
            x.deal(player, 64033);
            Games.passTo(x, player);
            x.roll(1, 1);
            build(x, 5, 13, 14);
            trails("through the houses at 0 and 7", x, player, 5);
            x.city(0);
            x.city(7);
            trails("through the cities at 0 and 7", x, player, 5);
            Check.same("30: held through them", x.holder(false), player);
            Check.same("27: two cities and the trail", x.points(player), 6);
        }
    }

    /** "without going through a corner with a building of somebody else" */
    private static void toAStrangersBuildingButNotThrough() {
        Hexstead x = Games.deserts();
        x.place(7, 13);
        x.place(9, 7);
        x.place(11, 16);
        x.place(16, 21);
        x.place(19, 24);
        x.place(22, 27);
        x.deal(0, 33);
        x.roll(1, 1);
        Check.same("8: to the house at 9", x.road(14), 2);
        Check.same("8: on the near side", x.road(12), 3);
        trails("it ends at 9", x, 0, 3);
        trails("of 1, which begins there", x, 1, 1);
        Hexstead y = Games.deserts();
        y.place(8, 14);
        y.place(2, 8);
        y.place(10, 15);
        y.place(13, 18);
        y.place(19, 24);
        y.place(22, 27);
        y.deal(0, 22);
        y.roll(1, 1);
        Check.same("8: 9 is free", y.road(7), 2);
        Check.same("8: past 1, which has no building", y.road(0), 3);
        trails("all of it", y, 0, 3);
    }

    /** Two rows apart from one another, each to another building of a stranger: they do not meet there. */
    private static void towardsTwoStrangers() {
        Hexstead x = Games.deserts();
        x.place(1, 7);
        x.place(8, 13);
        x.place(5, 11);
        x.place(19, 25);
        x.place(16, 22);
        x.place(3, 9);
        x.deal(0, 33);
        x.roll(1, 1);
        Check.same("8: to the house at 8", x.road(14), 2);
        trails("to the house at 8", x, 0, 2);
        Check.same("8: to the house at 16", x.road(21), 2);
        trails("to the houses at 8 and at 16", x, 0, 2);
        Check.same("8: on the far side of one row", x.road(1), 3);
        trails("to the houses at 8 and at 16, one row longer", x, 0, 3);
    }

    private static void aStrangersCityToo() {
        Hexstead x = Games.deserts();
        x.place(0, 0);
        x.place(3, 9);
        x.place(13, 18);
        x.place(16, 21);
        x.place(10, 15);
        x.place(22, 27);
        x.deal(0, 33);
        x.deal(1, 32000);
        x.roll(1, 1);
        build(x, 1, 2);
        trails("to the house at 3", x, 0, 3);
        next(x);
        x.city(3);
        trails("to the city at 3", x, 0, 3);
        next(x);
        next(x);
        Check.refused("8: not past the city at 3", x, Check.STATE, () -> x.road(3));
    }

    private static Hexstead ring() {
        Hexstead x = Games.deserts();
        x.place(0, 0);
        x.place(13, 18);
        x.place(19, 24);
        x.place(16, 21);
        x.place(10, 15);
        x.place(3, 3);
        x.deal(0, 66);
        x.roll(1, 1);
        build(x, 1, 2, 4, 5);
        return x;
    }

    private static void ringAndTails() {
        Hexstead x = ring();
        trails("round the ring", x, 0, 6);
        Check.same("8: a tail at 0", x.road(6), 7);
        Check.same("8: a tail at 1 beside it", x.road(7), 7);
        trails("a tail, the long way round, a tail", x, 0, 7);
        Hexstead y = ring();
        y.road(6);
        Check.same("8: a tail of two", y.road(12), 8);
        trails("all roads", y, 0, 8);
        Hexstead z = ring();
        z.road(6);
        Check.same("8: a tail on the other side", z.road(9), 7);
        trails("round the ring and one tail", z, 0, 7);
    }

    /** One can begin at a stranger's building and come back to it, and that goes through no corner twice. */
    private static void ringThroughAStranger() {
        Hexstead x = Games.deserts();
        x.place(0, 0);
        x.place(3, 9);
        x.place(13, 18);
        x.place(16, 21);
        x.place(10, 15);
        x.place(22, 27);
        x.deal(0, 66);
        x.roll(1, 1);
        build(x, 1, 2, 5, 4);
        trails("5 of the ring", x, 0, 5);
        Check.same("8: the ring", x.road(3), 6);
        trails("from the stranger to the stranger", x, 0, 6);
        Check.same("8: a tail", x.road(6), 6);
        trails("a tail and half of the ring are fewer", x, 0, 6);
    }

    private static void tailsOnBothSidesOfAStranger() {
        Hexstead x = Games.deserts();
        x.place(7, 13);
        x.place(9, 7);
        x.place(22, 27);
        x.place(19, 24);
        x.place(16, 21);
        x.place(11, 16);
        x.deal(0, 22);
        x.roll(1, 1);
        build(x, 14, 15);
        Check.same("34: on both sides", x.roadAt(14) * 10 + x.roadAt(15), 0);
        trails("two of four, on either side", x, 0, 2);
    }

    /**
     * 2 has 14 and 17, and can have a trail from 11 to 17 that 1 can part at 12, by the roads 1 and 8; 0 has 7 and 22
     * on the other side. All have the goods for it.
     */
    private static Hexstead partedNearItsEnd(int edgeAt17) {
        Hexstead x = Games.deserts();
        x.place(7, 12);
        x.place(1, 1);
        x.place(14, 19);
        x.place(17, edgeAt17);
        x.place(4, 4);
        x.place(22, 28);
        x.deal(0, 44);
        x.deal(1, 1122);
        x.deal(2, 44);
        x.roll(1, 1);
        return x;
    }

    /** "If it is below 5, nobody holds it" */
    private static void fourIsTooFew() {
        Hexstead x = partedNearItsEnd(22);
        build(x, 29, 27);
        trails("four", x, 0, 4);
        Check.same("30: nobody with four", x.holder(false), Hexstead.NONE);
        Check.same("27: no points for four", x.points(0), 2);
        x.road(13);
        trails("five", x, 0, 5);
        Check.same("30: with five", x.holder(false), 0);
        Check.same("27: two points for five", x.points(0), 4);
        Check.same("27: to nobody else", x.points(1) + x.points(2), 4);
    }

    /** "if the holder has a trail of that length, it stays" */
    private static void theSameLengthIsNotMore() {
        Hexstead x = partedNearItsEnd(22);
        build(x, 29, 27, 13);
        next(x);
        next(x);
        build(x, 18, 20, 21);
        trails("five of 2", x, 2, 5);
        Check.same("30: 0 had it first", x.holder(false), 0);
        Check.same("27: 2 gets nothing", x.points(2), 2);
        x.road(17);
        trails("six of 2", x, 2, 6);
        Check.same("30: six are more", x.holder(false), 2);
        Check.same("27: 2 gets two", x.points(2) * 10 + x.points(0), 42);
        next(x);
        Check.same("8: six of 0, too", x.road(26), 6);
        Check.same("30: 2 had it first", x.holder(false), 2);
    }

    private static Hexstead partedToFive(int roadsOf0) {
        Hexstead x = partedNearItsEnd(22);
        next(x);
        next(x);
        build(x, 18, 20, 21, 17);
        next(x);
        int[] edges = {29, 27, 13, 26};
        for (int i = 0; i < roadsOf0; i++) {
            x.road(edges[i]);
        }
        next(x);
        x.road(8);
        Check.same("30: 2 holds it with six", x.holder(false), 2);
        x.house(12);
        trails("five of 2 are left", x, 2, 5);
        return x;
    }

    private static void holderStaysWithALengthThatOthersHaveToo() {
        Hexstead x = partedToFive(2);
        trails("four of 0", x, 0, 4);
        Check.same("30: 2 stays with the most", x.holder(false), 2);
        Hexstead y = partedToFive(3);
        trails("five of 0", y, 0, 5);
        Check.same("30: 2 stays beside another with five", y.holder(false), 2);
        Check.same("27: with its points", y.points(2), 4);
    }

    /** "otherwise it is the player who has one, if there is just one such player" */
    private static void justOneOtherHasIt() {
        Hexstead x = partedToFive(4);
        trails("six of 0", x, 0, 6);
        Check.same("30: 0 alone has six", x.holder(false), 0);
        Check.same("27: two points go over", x.points(0) * 10 + x.points(2), 42);
    }

    private static void houseAtTheEndOfTheTrail() {
        Hexstead x = partedNearItsEnd(22);
        next(x);
        next(x);
        build(x, 18, 20, 21);
        Check.same("30: 2 holds it with five", x.holder(false), 2);
        next(x);
        next(x);
        x.road(8);
        x.house(12);
        trails("a house at its end leaves five", x, 2, 5);
        Check.same("30: 2 holds it still", x.holder(false), 2);
    }

    private static void houseThatPartsItToFour() {
        Hexstead x = partedNearItsEnd(23);
        next(x);
        next(x);
        build(x, 18, 17, 20, 21);
        trails("five of 2", x, 2, 5);
        Check.same("30: 2 holds it with five", x.holder(false), 2);
        next(x);
        next(x);
        x.road(8);
        Check.same("9: no points for others' trails", x.house(12), 3);
        trails("four of 2 are left", x, 2, 4);
        Check.same("30: nobody has five", x.holder(false), Hexstead.NONE);
        Check.same("27: two points fewer", x.points(2), 2);
    }

    /** "or nobody" */
    private static void nobodyInATieAndTheNextOneWhoHasMore() {
        Hexstead x = Games.deserts();
        x.place(7, 12);
        x.place(4, 3);
        x.place(13, 18);
        x.place(17, 22);
        x.place(0, 5);
        x.place(9, 15);
        x.deal(0, 44);
        x.deal(1, 1144);
        x.deal(2, 44);
        x.roll(1, 1);
        build(x, 13, 14, 16);
        next(x);
        build(x, 9, 4, 6);
        next(x);
        build(x, 19, 20, 21, 23);
        Check.same("30: 2 has six", x.holder(false), 2);
        next(x);
        next(x);
        x.house(15);
        trails("2 is parted to three", x, 2, 3);
        trails("five of 0", x, 0, 5);
        trails("five of 1", x, 1, 5);
        Check.same("30: nobody of two", x.holder(false), Hexstead.NONE);
        Check.same("27: no points for it", x.points(0) * 100 + x.points(1) * 10 + x.points(2), 232);
        next(x);
        next(x);
        Check.same("8: six of 0", x.road(17), 6);
        Check.same("30: 0 has more", x.holder(false), 0);
        Check.same("27: two points for it", x.points(0), 4);
    }

    /** The points that a house answers are those behind looking at the trails. */
    private static void builderOfTheHouseGetsIt() {
        Hexstead x = Games.race();
        Games.pass(x);
        x.roll(1, 1);
        build(x, 9, 4);
        trails("four of 1", x, 1, 4);
        next(x);
        build(x, 19, 20, 21, 23);
        Check.same("30: 2 has six", x.holder(false), 2);
        next(x);
        build(x, 13, 14);
        next(x);
        Check.same("8: five of 1", x.road(6), 5);
        Check.same("30: 2 has more", x.holder(false), 2);
        Check.same("9: a third house and the longest trail", x.house(15), 5);
        Check.same("30: 1 has it by the house", x.holder(false), 1);
    }

    /** Both roads lie before it is looked at who has the longest trail. */
    private static void bothRoadsOfACard() {
        Hexstead x = Games.placedOnDeserts();
        x.deal(0, 33311);
        x.roll(1, 1);
        x.buy();
        x.buy();
        x.buy();
        x.road(13);
        x.endTurn();
        Games.pass(x);
        Games.pass(x);
        Check.same("13: three and two", x.roads(14, 15), 5);
        Check.same("30: held behind the second", x.holder(false), 0);
        Check.same("27: with the POINT", x.points(0), 5);
    }
}
