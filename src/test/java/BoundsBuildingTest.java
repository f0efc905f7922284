/** Each sentence of "Building", but for those on trails, and of promises 8 to 11 that names a bound. */
final class BoundsBuildingTest {
    /** The player whose limits, places and goods are looked at: each one in turn. */
    private static int me = 0;

    private BoundsBuildingTest() {
    }

    public static void main(String[] args) {
        for (me = 0; me < 3; me++) {
            eightRoads();
            eightRoadsWithTheFirstAndTheLastEdge();
            fourHouses();
            threeCities();
            limitsAreOfEachPlayer();
            houseOnACornerWithout();
            houseAtTheEndOfAnOwnRoad();
            cityInPlaceOfAnOwnHouse();
            roadAtAnOwnBuildingOrRoad();
            roadAtTheOtherEnd();
            justThePrice();
            oneShortOfThePrice();
        }
        me = 0;
        houseNextToAStrangers();
        houseNextToNone();
        roadOnAnEdgeWithout();
        roadsThatCloseARing();
        roadPastAStrangersCity();
        Check.end();
    }

    /** I have the corners 0 and 7 with the edges 6 and 12, and the goods that are told, and have rolled. */
    private static Hexstead with(int... goods) {
        Hexstead x = Games.placedFor(me);
        for (int each : goods) {
            x.deal(me, each);
        }
        Games.passTo(x, me);
        x.roll(1, 1);
        return x;
    }

    /** "A player has at most 8 roads" */
    private static void eightRoads() {
        Hexstead x = with(77);
        int[] edges = {13, 14, 15, 16, 29};
        for (int edge : edges) {
            x.road(edge);
        }
        Check.same("8: the eighth", x.road(28), 7);
        Check.refused("8: a ninth", x, Check.STATE, () -> x.road(27));
        Check.refused("8: a ninth in another place", x, Check.STATE, () -> x.road(5));
        Check.same("24: the goods for it are there", Games.goods(x, me), 11);
        Check.same("34: the eighth", x.roadAt(28), me);
    }

    private static void eightRoadsWithTheFirstAndTheLastEdge() {
        Hexstead x = with(77);
        int[] edges = {0, 29, 28, 27, 26, 5};
        for (int edge : edges) {
            Check.same("34: none yet", x.roadAt(edge), Hexstead.NONE);
            x.road(edge);
            Check.same("34: an own one", x.roadAt(edge), me);
        }
        Check.refused("8: a ninth", x, Check.STATE, () -> x.road(13));
    }

    /** "4 houses ... at a time" */
    private static void fourHouses() {
        Hexstead x = with(39999, 11);
        int[] edges = {13, 14, 15, 16, 29, 28};
        for (int edge : edges) {
            x.road(edge);
        }
        Check.same("9: the third", x.house(9), 5);
        Check.same("9: the fourth", x.house(11), 6);
        Check.refused("9: a fifth", x, Check.STATE, () -> x.house(22));
        Check.refused("9: a fifth in another place", x, Check.STATE, () -> x.house(23));
        Check.same("24: the goods for it are there", Games.goods(x, me), 37722);
        Check.same("10: one of them a city", x.city(7), 7);
        Check.same("9: a fourth again", x.house(22), 8);
    }

    /** "3 cities at a time" */
    private static void threeCities() {
        Hexstead x = with(99966, 33000);
        x.road(13);
        x.road(14);
        x.house(9);
        x.road(29);
        Check.same("10: the first", x.city(0), 4);
        Check.same("10: the second", x.city(7), 5);
        Check.same("10: the third", x.city(9), 6);
        Check.same("9: a house besides", x.house(23), 7);
        Check.same("24: the goods for a fourth are there", Games.goods(x, me), 34711);
        Check.refused("10: a fourth", x, Check.STATE, () -> x.city(23));
    }

    private static void limitsAreOfEachPlayer() {
        Hexstead x = Games.placedFor(me);
        int next = (me + 1) % 3;
        x.deal(me, 66);
        x.deal(next, 11);
        Games.passTo(x, me);
        x.roll(1, 1);
        int[] edges = {13, 14, 15, 16, 29, 28};
        for (int edge : edges) {
            x.road(edge);
        }
        x.endTurn();
        x.roll(1, 1);
        Check.same("8: eight of mine leave the next one free to build", x.road(2), 3);
        Check.same("34: of the next one", x.roadAt(2), next);
    }

    /** "A house can be built on a corner without a building" */
    private static void houseOnACornerWithout() {
        Hexstead x = with(66666);
        Check.refused("9: an own house", x, Check.STATE, () -> x.house(0));
        x.city(0);
        Check.refused("9: an own city", x, Check.STATE, () -> x.house(0));
    }

    private static void houseNextToAStrangers() {
        Hexstead y = Games.deserts();
        y.place(0, 5);
        y.place(4, 3);
        y.place(7, 12);
        y.place(10, 15);
        y.place(13, 18);
        y.place(22, 27);
        y.deal(0, 1122);
        y.deal(1, 32000);
        y.roll(1, 1);
        y.road(4);
        Check.refused("9: another's house at an own road", y, Check.STATE, () -> y.house(4));
        Check.refused("9: next to another's house", y, Check.STATE, () -> y.house(5));
        y.endTurn();
        y.roll(1, 1);
        y.city(4);
        y.endTurn();
        Games.pass(y);
        y.roll(1, 1);
        Check.refused("9: another's city at an own road", y, Check.STATE, () -> y.house(4));
    }

    /** "if no corner that is joined with it by an edge has one" */
    private static void houseNextToNone() {
        Hexstead x = with(66666);
        x.road(5);
        Check.refused("9: the edge 5 joins 5 with the own 0", x, Check.STATE, () -> x.house(5));
        Check.refused("9: the edge 6 joins 6 with the own 0", x, Check.STATE, () -> x.house(6));
        x.road(29);
        Check.same("9: two edges from 7, and from 0", x.house(23), 3);
        Hexstead y = Games.deserts();
        y.place(21, 27);
        y.place(6, 6);
        y.place(3, 3);
        y.place(12, 17);
        y.place(17, 22);
        y.place(19, 24);
        y.deal(0, 2222);
        y.roll(1, 1);
        y.road(28);
        Check.refused("9: the edge 29 joins 23 with another's 6", y, Check.STATE, () -> y.house(23));
        Hexstead z = Games.placedOnDeserts();
        z.deal(0, 2244);
        z.roll(1, 1);
        z.road(0);
        Check.refused("9: an own and another's house beside it", z, Check.STATE, () -> z.house(1));
        z.road(7);
        Check.same("9: the edges of 9 join it with 1, 8 and 10", z.house(9), 3);
    }

    /** "in the game a road of the player has to end at its corner" */
    private static void houseAtTheEndOfAnOwnRoad() {
        Hexstead x = with(2233);
        Check.refused("9: no road there", x, Check.STATE, () -> x.house(9));
        x.road(13);
        Check.refused("9: the road ends one corner ahead", x, Check.STATE, () -> x.house(9));
        x.road(14);
        Check.same("9: a road ends there", x.house(9), 3);
        Check.same("33: an own one", x.buildingAt(9), me);
        Hexstead y = Games.placedFor(me);
        y.deal((me + 2) % 3, 2233);
        y.deal(me, 1111);
        Games.passTo(y, (me + 2) % 3);
        y.roll(1, 1);
        y.road(24);
        y.endTurn();
        y.roll(1, 1);
        Check.refused("9: a road of another ends there", y, Check.STATE, () -> y.house(19));
        y.endTurn();
        Games.pass(y);
        y.roll(1, 1);
        Check.same("9: who may build there", y.house(19), 3);
    }

    /** "A city takes the place of an own house." */
    private static void cityInPlaceOfAnOwnHouse() {
        Hexstead x = Games.placedFor(me);
        int next = (me + 1) % 3;
        x.deal(me, 96000);
        x.deal(next, 32000);
        Games.passTo(x, me);
        x.roll(1, 1);
        for (int corner = 0; corner < 24; corner++) {
            int c = corner;
            if (c != 0 && c != 7) {
                Check.refused("10: no own house at " + c, x, Check.STATE, () -> x.city(c));
            }
        }
        Check.same("10: in place of a house", x.city(7), 3);
        Check.same("33: it is a city", x.buildingAt(7), 3 + me);
        Check.refused("10: in place of a city", x, Check.STATE, () -> x.city(7));
        Check.same("10: in place of the other house", x.city(0), 4);
        x.endTurn();
        x.roll(1, 1);
        Check.refused("10: another's city", x, Check.STATE, () -> x.city(7));
        Check.same("10: the points of the next one", x.city(2), 3);
        Check.same("33: a city of the next one", x.buildingAt(2), 3 + next);
    }

    /** "A road can be built on an edge without one" */
    private static void roadOnAnEdgeWithout() {
        Hexstead x = with(99);
        Check.refused("8: an own road lies on 6", x, Check.STATE, () -> x.road(6));
        Check.refused("8: an own road lies on 12", x, Check.STATE, () -> x.road(12));
        Hexstead y = Games.deserts();
        y.place(0, 0);
        y.place(2, 1);
        y.place(10, 15);
        y.place(13, 18);
        y.place(4, 4);
        y.place(22, 28);
        y.deal(0, 99);
        y.roll(1, 1);
        Check.refused("8: another's road lies between an own one and another's house", y, Check.STATE, () -> y.road(1));
        Check.same("8: beside it", y.road(7), 2);
        Check.refused("8: it lies there now", y, Check.STATE, () -> y.road(7));
    }

    /** "if at one of its corners the player has a building, or has another road there" */
    private static void roadAtAnOwnBuildingOrRoad() {
        int[] allowed = {0, 5, 13, 29};
        for (int edge = 0; edge < 30; edge++) {
            int e = edge;
            Hexstead x = with(11);
            String due = Model.has(allowed, e) ? "nothing" : Check.STATE.getName();
            Check.same("8: the edge " + e, Check.thrownBy(() -> x.road(e)), due);
        }
    }

    private static void roadsThatCloseARing() {
        Hexstead x = with(66);
        Check.same("8: from 6 along the edge 29", x.road(29), 2);
        Check.same("8: from 23 along the edge 28", x.road(28), 3);
        Check.same("8: from 0 along the edge 5", x.road(5), 4);
        Hexstead y = Games.deserts();
        y.place(22, 28);
        y.place(4, 4);
        y.place(10, 15);
        y.place(13, 18);
        y.place(1, 1);
        y.place(16, 21);
        y.deal(0, 33);
        y.deal(1, 22);
        y.roll(1, 1);
        Check.same("8: from 23 along the edge 29", y.road(29), 2);
        Check.same("8: from 6 along the edge 12", y.road(12), 3);
        Check.same("8: from 6 along the edge 6", y.road(6), 3);
        y.endTurn();
        y.roll(1, 1);
        Check.same("8: from 5 along the edge 5", y.road(5), 2);
        Check.same("8: from 0 along the edge 0", y.road(0), 4);
    }

    /** "has another road there and nobody else has a building there" */
    private static void roadPastAStrangersCity() {
        Hexstead x = Games.deserts();
        x.place(7, 13);
        x.place(9, 7);
        x.place(22, 27);
        x.place(19, 24);
        x.place(16, 21);
        x.place(13, 18);
        x.deal(0, 44);
        x.deal(1, 32000);
        x.roll(1, 1);
        Check.same("8: to the house", x.road(14), 2);
        Check.refused("8: past the house", x, Check.STATE, () -> x.road(15));
        x.endTurn();
        x.roll(1, 1);
        x.city(9);
        x.endTurn();
        Games.pass(x);
        x.roll(1, 1);
        Check.refused("8: past the city", x, Check.STATE, () -> x.road(15));
        Check.refused("8: past the city by its own edge", x, Check.STATE, () -> x.road(7));
    }

    /** "at one of its corners": the other one may be whose it will. */
    private static void roadAtTheOtherEnd() {
        Hexstead x = with(44);
        x.road(5);
        Check.same("8: to another's house", x.road(4), 4);
        Check.refused("8: but not on from there", x, Check.STATE, () -> x.road(3));
        Check.same("8: but elsewhere", x.road(13), 5);
    }

    /** "A road costs a BRICK and a WOOD, ..." */
    private static void justThePrice() {
        Hexstead x = with(11);
        x.road(13);
        Check.same("8: a road for all", Games.total(x, me), 0);
        Check.same("8: to the bank", Games.goods(x, 3), 12 * 11111);
        Hexstead y = with(1133);
        y.road(13);
        y.road(14);
        Check.same("24: what is left", Games.goods(y, me), 1111);
        y.house(9);
        Check.same("9: a house for all", Games.total(y, me), 0);
        Check.same("9: to the bank", Games.goods(y, 3), 12 * 11111);
        Hexstead z = with(32000);
        z.city(0);
        Check.same("10: a city for all", Games.total(z, me), 0);
        Check.same("10: to the bank", Games.goods(z, 3), 12 * 11111);
        Hexstead w = with(11100);
        w.buy();
        Check.same("11: a card for all", Games.total(w, me), 0);
        Check.same("11: to the bank", Games.goods(w, 3), 12 * 11111);
    }

    private static void oneShortOfThePrice() {
        int[] shortOfRoad = {99990, 99909};
        for (int goods : shortOfRoad) {
            Hexstead x = with(goods);
            Check.refused("8: with " + goods, x, Check.STATE, () -> x.road(13));
        }
        // Two roads have to be paid ahead of the house.
        int[] shortOfHouse = {9992, 9929, 9099, 999};
        for (int goods : shortOfHouse) {
            Hexstead x = with(goods);
            x.road(13);
            x.road(14);
            Check.refused("9: with two roads and what is left of " + goods, x, Check.STATE, () -> x.house(9));
        }
        int[] shortOfCity = {29999, 91999, 9999, 90999};
        for (int goods : shortOfCity) {
            Hexstead x = with(goods);
            Check.refused("10: with " + goods, x, Check.STATE, () -> x.city(0));
        }
        int[] shortOfCard = {9999, 90999, 99099};
        for (int goods : shortOfCard) {
            Hexstead x = with(goods);
            Check.refused("11: with " + goods, x, Check.STATE, x::buy);
        }
    }
}
