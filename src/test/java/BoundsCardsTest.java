/** The paragraph on cards, and promises 11 to 15, 30 (the army) to 32: each sentence that names a bound. */
final class BoundsCardsTest {
    private static final int[] ORDER = {0, 4, 1, 0, 2, 3, 0, 4, 0, 1, 2, 0, 3, 0, 4};

    /** The player whose cards are looked at: each one in turn. */
    private static int me = 0;

    private BoundsCardsTest() {
    }

    public static void main(String[] args) {
        for (me = 0; me < 3; me++) {
            notInTheTurnOfBuying();
            anOldOneBesideANewOne();
            onlyOwnCards();
            once();
            oneInATurn();
            aheadOfRollingAndBehind();
            notWhileSomethingIsDue();
            pointIsNeverUsed();
            knightMovesTheRobberAsTold();
            knightThenASeven();
            oneRoadOrTwo();
            roadsOfWhichOneIsNotPossible();
            roadsForNothing();
            roadsUpToEight();
            plentyFromAShortBank();
            monopolyOfAllAndOfNone();
            armyOfThree();
        }
        fifteenInOrderWhoeverBuys();
        notASixteenth();
        armyOfTheFirst();
        Check.end();
    }

    private static void round(Hexstead x) {
        x.endTurn();
        Games.pass(x);
        Games.pass(x);
    }

    /** I have bought so many cards in my first turn, and am to roll again; goods are what the players have besides. */
    private static Hexstead withCards(int many, int mine, int ofNext, int ofLast) {
        Hexstead x = Games.placedFor(me);
        x.deal(me, 11100 * many);
        x.deal(me, mine);
        x.deal(next(), ofNext);
        x.deal(last(), ofLast);
        Games.passTo(x, me);
        x.roll(1, 1);
        for (int i = 0; i < many; i++) {
            x.buy();
        }
        round(x);
        return x;
    }

    private static int next() {
        return (me + 1) % 3;
    }

    private static int last() {
        return (me + 2) % 3;
    }

    /** "There are 15, bought in this order" */
    private static void fifteenInOrderWhoeverBuys() {
        Hexstead x = Games.placedOnDeserts();
        x.deal(0, 55500);
        x.deal(1, 55500);
        x.deal(2, 22200);
        int[] counts = new int[15];
        for (int i = 0; i < 12; i++) {
            x.roll(1, 1);
            if (x.turn() != 2 || i < 6) {
                int player = x.turn();
                Check.same("11: card " + i, x.buy(), ORDER[bought(counts)]);
                counts[5 * player + ORDER[bought(counts)]]++;
            }
            for (int each = 0; each < 15; each++) {
                Check.same("32: of " + each / 5 + " kind " + each % 5, x.cards(each / 5, each % 5), counts[each]);
            }
            x.endTurn();
        }
    }

    private static int bought(int[] counts) {
        int sum = 0;
        for (int count : counts) {
            sum += count;
        }
        return sum;
    }

    /** "if all 15 are bought" */
    private static void notASixteenth() {
        Hexstead x = Games.deserts();
        x.layHex(2, Hexstead.BRICK, 9);
        x.place(7, 12);
        x.place(2, 8);
        x.place(4, 10);
        x.place(16, 21);
        x.place(13, 18);
        x.place(10, 15);
        x.deal(0, 99999);
        x.deal(0, 33332);
        x.roll(1, 1);
        for (int i = 0; i < 12; i++) {
            Check.same("11: card " + i, x.buy(), ORDER[i]);
        }
        for (int swaps = 0; swaps < 12; swaps++) {
            x.swap(swaps < 6 ? Hexstead.BRICK : Hexstead.WOOD, Hexstead.WOOL + swaps % 3);
        }
        Check.same("11: the thirteenth", x.buy(), Hexstead.MONOPOLY);
        Check.same("11: the fourteenth", x.buy(), Hexstead.KNIGHT);
        Check.same("11: the fifteenth", x.buy(), Hexstead.POINT);
        Check.same("24: the goods for one more", Games.goods(x, 0), 11100);
        Check.refused("11: a sixteenth", x, Check.STATE, x::buy);
        x.endTurn();
        x.roll(4, 5);
        x.offer(1, 11100);
        x.accept(0);
        Check.same("24: another one has the goods for it", Games.goods(x, 1), 11100);
        Check.refused("11: nor for another one", x, Check.STATE, x::buy);
    }

    /** "in an own turn later than that in which it was bought" */
    private static void notInTheTurnOfBuying() {
        Hexstead x = Games.placedFor(me);
        x.deal(me, 66600);
        Games.passTo(x, me);
        x.roll(1, 1);
        for (int i = 0; i < 6; i++) {
            x.buy();
        }
        Check.refused("12: now", x, Check.STATE, () -> x.knight(1, Hexstead.NONE, 0));
        Check.refused("13: now", x, Check.STATE, () -> x.roads(13, 14));
        Check.refused("14: now", x, Check.STATE, () -> x.plenty(0, 0));
        Check.refused("15: now", x, Check.STATE, () -> x.monopoly(0));
        for (int turn = 1; turn < 3; turn++) {
            x.endTurn();
            Check.refused("12: " + turn + " behind it", x, Check.STATE, () -> x.knight(1, Hexstead.NONE, 0));
            Check.refused("13: " + turn + " behind it", x, Check.STATE, () -> x.roads(13, 14));
            Check.refused("14: " + turn + " behind it", x, Check.STATE, () -> x.plenty(0, 0));
            Check.refused("15: " + turn + " behind it", x, Check.STATE, () -> x.monopoly(0));
            x.roll(1, 1);
            Check.refused("12: behind rolling", x, Check.STATE, () -> x.knight(1, Hexstead.NONE, 0));
        }
        x.endTurn();
        Check.same("12: in the next own turn", x.knight(1, Hexstead.NONE, 0), Hexstead.NONE);
    }

    private static void anOldOneBesideANewOne() {
        Hexstead x = withCards(3, 11100, 0, 0);
        x.roll(1, 1);
        Check.same("11: a second KNIGHT", x.buy(), Hexstead.KNIGHT);
        Check.same("12: the first one may be used", x.knight(1, Hexstead.NONE, 0), Hexstead.NONE);
        Check.same("32: the second one is left", x.cards(me, Hexstead.KNIGHT), 1);
        round(x);
        Check.same("12: the second one in the next turn", x.knight(2, Hexstead.NONE, 0), Hexstead.NONE);
        Check.same("32: none is left", x.cards(me, Hexstead.KNIGHT), 0);
        round2(x);
        Check.refused("12: a third one was never bought", x, Check.STATE, () -> x.knight(1, Hexstead.NONE, 0));
        Hexstead y = withCards(3, 11100, 0, 0);
        y.knight(1, Hexstead.NONE, 0);
        y.roll(1, 1);
        y.buy();
        Check.refused("12: the first one is used, the second one is new", y, Check.STATE,
                () -> y.knight(2, Hexstead.NONE, 0));
        round(y);
        y.roll(1, 1);
        Check.same("12: the second one is old now", y.knight(2, Hexstead.NONE, 0), Hexstead.NONE);
    }

    private static void round2(Hexstead x) {
        x.roll(1, 1);
        round(x);
    }

    private static void onlyOwnCards() {
        Hexstead x = withCards(6, 0, 11100, 0);
        x.roll(1, 1);
        x.endTurn();
        Check.refused("12: the next one has none", x, Check.STATE, () -> x.knight(3, Hexstead.NONE, 0));
        Check.refused("13: the next one has none", x, Check.STATE, () -> x.roads(2, Hexstead.NONE));
        Check.refused("14: the next one has none", x, Check.STATE, () -> x.plenty(0, 1));
        Check.refused("15: the next one has none", x, Check.STATE, () -> x.monopoly(0));
        x.roll(1, 1);
        Check.same("11: but gets the next card", x.buy(), Hexstead.KNIGHT);
        round(x);
        Check.same("12: and may use it", x.knight(3, Hexstead.NONE, 0), Hexstead.NONE);
        Check.same("31: of the next one", x.knights(next()), 1);
        Check.same("31: of mine", x.knights(me), 0);
        Check.same("32: of mine", x.cards(me, Hexstead.KNIGHT), 2);
    }

    /** "can be used once" */
    private static void once() {
        Hexstead x = withCards(6, 0, 0, 0);
        x.monopoly(0);
        round2(x);
        Check.refused("15: a second time", x, Check.STATE, () -> x.monopoly(0));
        x.plenty(0, 1);
        round2(x);
        Check.refused("14: a second time", x, Check.STATE, () -> x.plenty(0, 1));
        x.roads(13, Hexstead.NONE);
        round2(x);
        Check.refused("13: a second time", x, Check.STATE, () -> x.roads(14, Hexstead.NONE));
        x.knight(1, Hexstead.NONE, 0);
        round2(x);
        x.knight(2, Hexstead.NONE, 0);
        round2(x);
        Check.refused("12: a third time of two", x, Check.STATE, () -> x.knight(3, Hexstead.NONE, 0));
        for (int kind = 0; kind < 4; kind++) {
            Check.same("32: none is left of " + kind, x.cards(me, kind), 0);
        }
        Check.same("31: used", x.knights(me), 2);
    }

    /** "in one turn one card at most" */
    private static void oneInATurn() {
        for (int used = 0; used < 4; used++) {
            Hexstead x = withCards(6, 0, 0, 0);
            use(x, used);
            noMore("behind " + used, x);
            x.roll(1, 1);
            noMore("behind " + used + " and rolling", x);
            round(x);
            int next = (used + 1) % 4;
            use(x, next);
            Check.same("32: in the next turn", x.cards(me, next), next == Hexstead.KNIGHT ? 1 : 0);
            noMore("in the next turn", x);
        }
    }

    private static void use(Hexstead x, int kind) {
        switch (kind) {
            case Hexstead.KNIGHT:
                x.knight(1, Hexstead.NONE, 0);
                break;
            case Hexstead.ROADS:
                x.roads(13, 14);
                break;
            case Hexstead.PLENTY:
                x.plenty(0, 0);
                break;
            default:
                x.monopoly(0);
        }
    }

    private static void noMore(String when, Hexstead x) {
        Check.refused("12: " + when, x, Check.STATE, () -> x.knight(6, Hexstead.NONE, 0));
        Check.refused("13: " + when, x, Check.STATE, () -> x.roads(29, Hexstead.NONE));
        Check.refused("14: " + when, x, Check.STATE, () -> x.plenty(0, 0));
        Check.refused("15: " + when, x, Check.STATE, () -> x.monopoly(0));
    }

    /** "ahead of rolling, too": it is still to be rolled then. */
    private static void aheadOfRollingAndBehind() {
        for (int kind = 0; kind < 4; kind++) {
            Hexstead x = withCards(6, 0, 0, 0);
            use(x, kind);
            Check.same("22: still to roll, behind " + kind, x.phase(), Hexstead.ROLL);
            Check.refused("21: no end ahead of rolling, behind " + kind, x, Check.STATE, x::endTurn);
            Check.same("5: then rolled", x.roll(1, 1), Hexstead.ACT);
            Hexstead y = withCards(6, 0, 0, 0);
            y.roll(1, 1);
            use(y, kind);
            Check.same("22: still to act, behind " + kind, y.phase(), Hexstead.ACT);
            Check.same("21: then ended", y.endTurn(), next());
        }
    }

    /** "when nothing is due" */
    private static void notWhileSomethingIsDue() {
        Hexstead x = withCards(6, 0, 8, 0);
        x.roll(1, 6);
        Check.same("22: the next one has to discard", x.phase(), Hexstead.DISCARD);
        noMore("discards are due", x);
        x.discard(next(), 4);
        noMore("the robber is due", x);
        x.rob(1, Hexstead.NONE, 0);
        Check.same("12: nothing is due", x.knight(6, Hexstead.NONE, 0), Hexstead.NONE);
    }

    /** "A card but POINT can be used" */
    private static void pointIsNeverUsed() {
        Hexstead x = withCards(2, 0, 0, 0);
        Check.same("27: it counts from the turn of buying on", x.points(me), 3);
        for (int i = 0; i < 3; i++) {
            round2(x);
            Check.same("32: it stays", x.cards(me, Hexstead.POINT), 1);
            Check.same("27: it counts", x.points(me), 3);
        }
        Check.same("27: for nobody else", x.points(next()), 2);
    }

    /** "KNIGHT: the robber moves, as told." */
    private static void knightMovesTheRobberAsTold() {
        Hexstead x = withCards(1, 4, 32, 700);
        Check.refused("12: to the same hexagon", x, Check.STATE, () -> x.knight(0, next(), 0));
        Check.refused("12: the own player", x, Check.STATE, () -> x.knight(1, me, 0));
        Check.refused("12: without a building there", x, Check.STATE, () -> x.knight(2, last(), 0));
        Check.refused("12: not without a victim", x, Check.STATE, () -> x.knight(2, Hexstead.NONE, 0));
        Check.same("32: not used by that", x.cards(me, Hexstead.KNIGHT), 1);
        Check.same("12: 994 of five", x.knight(2, next(), 994), Hexstead.WOOD);
        Check.same("35: there", x.robber(), 2);
        Check.same("24: stolen", Games.goods(x, me) * 100 + Games.goods(x, next()), 1422);
        int[] draws = {0, 1, 2, 3, 4, 5, 999};
        int[] due = {0, 0, 1, 1, 1, 0, 1};
        for (int i = 0; i < draws.length; i++) {
            Hexstead y = withCards(1, 0, 32, 0);
            Check.same("12: draw " + draws[i], y.knight(2, next(), draws[i]), due[i]);
        }
    }

    private static void knightThenASeven() {
        Hexstead x = withCards(1, 0, 0, 0);
        x.knight(1, Hexstead.NONE, 0);
        Check.same("5: a seven behind it", x.roll(3, 4), Hexstead.ROB);
        Check.refused("7: the KNIGHT's hexagon", x, Check.STATE, () -> x.rob(1, Hexstead.NONE, 0));
        Check.same("7: back to the one ahead", x.rob(0, Hexstead.NONE, 0), Hexstead.NONE);
        Hexstead y = withCards(1, 0, 8, 0);
        Check.same("12: one of eight", y.knight(2, next(), 0), Hexstead.BRICK);
        Check.same("5: seven need not be discarded", y.roll(3, 4), Hexstead.ROB);
        Hexstead z = withCards(5, 6, 0, 0);
        z.plenty(1, 1);
        Check.same("5: eight by PLENTY", z.roll(3, 4), Hexstead.DISCARD);
        Check.same("26: half of them", z.due(me), 4);
    }

    /** "ROADS: one or two roads are built", "first one, then the other", "an edge, or NONE" */
    private static void oneRoadOrTwo() {
        Hexstead x = withCards(3, 0, 0, 0);
        Check.same("13: one", x.roads(13, Hexstead.NONE), 3);
        Check.same("34: it alone", x.roadAt(14), Hexstead.NONE);
        Check.same("32: used for one", x.cards(me, Hexstead.ROADS), 0);
        Hexstead y = withCards(3, 0, 0, 0);
        Check.same("13: the other from the one", y.roads(13, 14), 4);
        Hexstead z = withCards(3, 0, 0, 0);
        Check.same("13: in either order if both are possible", z.roads(29, 13), 3);
        Hexstead w = withCards(3, 0, 0, 0);
        Check.same("13: the edges 0 and 29", w.roads(0, 29), 3);
        Hexstead v = withCards(3, 0, 0, 0);
        Check.same("13: the edges 29 and 0", v.roads(29, 0), 3);
    }

    /** "both have to be possible then" */
    private static void roadsOfWhichOneIsNotPossible() {
        Hexstead x = withCards(3, 0, 0, 0);
        int[][] rows = {{14, 13}, {14, -1}, {13, 15}, {13, 13}, {6, 13}, {13, 6}, {13, 8}, {8, 13}, {15, 16}, {13, 12}};
        for (int[] row : rows) {
            Check.refused("13: " + row[0] + " and " + row[1], x, Check.STATE, () -> x.roads(row[0], row[1]));
        }
        Check.refused("13: NONE is no first one", x, Check.INDEX, () -> x.roads(Hexstead.NONE, Hexstead.NONE));
        Check.same("32: not used by that", x.cards(me, Hexstead.ROADS), 1);
        Check.same("28: nothing lies", x.trail(me), 2);
        Check.same("13: it is still possible", x.roads(13, 14), 4);
    }

    private static void roadsForNothing() {
        Hexstead x = withCards(3, 22, 0, 0);
        x.roads(13, 14);
        Check.same("24: nothing is paid", Games.goods(x, me), 22);
        Check.same("24: the bank gets nothing", x.hand(3, 0) + x.hand(3, 1), 20);
    }

    private static void roadsUpToEight() {
        int[] edges = {13, 14, 15, 16, 29, 28};
        for (int built = 4; built <= 6; built++) {
            Hexstead x = withCards(3, 66, 0, 0);
            x.roll(1, 1);
            for (int i = 0; i < built; i++) {
                x.road(edges[i]);
            }
            if (built > 4) {
                Check.refused("13: two behind " + built, x, Check.STATE, () -> x.roads(5, 0));
            }
            if (built > 5) {
                Check.refused("13: one behind " + built, x, Check.STATE, () -> x.roads(5, Hexstead.NONE));
            } else {
                String done = Check.thrownBy(() -> x.roads(5, x.roadAt(29) == me ? Hexstead.NONE : 0));
                Check.same("13: up to eight behind " + built, done, "nothing");
                Check.same("34: it lies", x.roadAt(5), me);
            }
        }
    }

    /** "if the bank does not have both" */
    private static void plentyFromAShortBank() {
        for (int left = 0; left <= 2; left++) {
            Hexstead x = withCards(5, 0, 9, 3 - left);
            Check.same("24: BRICK in the bank", x.hand(3, 0), left);
            if (left < 2) {
                Check.refused("14: two of " + left, x, Check.STATE, () -> x.plenty(0, 0));
            }
            if (left < 1) {
                Check.refused("14: one of " + left, x, Check.STATE, () -> x.plenty(0, 4));
                Check.refused("14: one of " + left, x, Check.STATE, () -> x.plenty(4, 0));
                Check.same("14: others", x.plenty(1, 4), 2);
            } else if (left == 1) {
                Check.same("14: one of one", x.plenty(4, 0), 2);
                Check.same("24: the last one", x.hand(3, 0), 0);
            } else {
                Check.same("14: two of two", x.plenty(0, 0), 2);
                Check.same("24: the last two", x.hand(3, 0), 0);
            }
        }
    }

    /** "all other players give all that they have of a good" */
    private static void monopolyOfAllAndOfNone() {
        for (int good = 0, unit = 1; good < 5; good++, unit *= 10) {
            Hexstead x = withCards(6, 0, 3 * unit, 2 * unit);
            int ahead = x.hand(3, good);
            Check.same("15: all of " + good, x.monopoly(good), 5);
            Check.same("24: I have them", x.hand(me, good), 5);
            Check.same("24: the others have none", x.hand(next(), good) + x.hand(last(), good), 0);
            Check.same("24: the bank has what it had", x.hand(3, good), ahead);
            Check.same("25: by moves", x.handByMoves(me, good), 5);
        }
        Hexstead y = withCards(6, 4, 10, 100);
        Check.same("15: the own ones are not given", y.monopoly(0), 0);
        Check.same("24: but kept", y.hand(me, 0), 4);
        Check.same("32: used", y.cards(me, Hexstead.MONOPOLY), 0);
        Hexstead z = withCards(6, 0, 9, 3);
        Check.same("15: all twelve", z.monopoly(0), 12);
    }

    /** "the player who was the first to have used 3 KNIGHTs" */
    private static void armyOfThree() {
        Hexstead x = withCards(7, 0, 0, 0);
        for (int used = 1; used <= 3; used++) {
            x.knight(used % 2 == 1 ? 1 : 6, Hexstead.NONE, 0);
            Check.same("31: used", x.knights(me), used);
            Check.same("30: army of " + used, x.holder(true), used == 3 ? me : Hexstead.NONE);
            Check.same("27: points with " + used, x.points(me), used == 3 ? 5 : 3);
            round2(x);
        }
    }

    /** "until another one has used more": another one who has used 3, too, has not. */
    private static void armyOfTheFirst() {
        for (int first = 0; first < 2; first++) {
            Hexstead x = bothHaveThree();
            if (first == 1) {
                Games.pass(x);
            }
            for (int i = 0; i < 6; i++) {
                int player = x.turn();
                x.knight(x.robber() == 0 || x.robber() == 4 ? 5 : 4, Hexstead.NONE, 0);
                Check.same("31: used by " + player, x.knights(player), 1 + i / 2);
                Check.same("30: first " + first + ", " + i, x.holder(true), i < 4 ? Hexstead.NONE : first);
                Games.pass(x);
                if (x.turn() == 2) {
                    Games.pass(x);
                }
            }
            Check.same("27: two points for the one who was first", x.points(first) - x.points(1 - first),
                    first == 0 ? 1 : 3);
        }
    }

    /** 0 has bought the first 7 cards with a POINT, 1 the other 8 with two; none is used. 4 and 5 have 2's houses. */
    private static Hexstead bothHaveThree() {
        Hexstead x = Games.deserts();
        x.place(0, 5);
        x.place(7, 12);
        x.place(4, 10);
        x.place(16, 21);
        x.place(10, 15);
        x.place(13, 18);
        x.deal(0, 77700);
        x.deal(1, 55599);
        x.deal(1, 33);
        x.roll(1, 1);
        for (int i = 0; i < 7; i++) {
            x.buy();
        }
        x.endTurn();
        x.roll(1, 1);
        for (int i = 0; i < 9; i++) {
            x.swap(i < 6 ? Hexstead.BRICK : Hexstead.WOOD, Hexstead.WOOL + i % 3);
        }
        for (int i = 7; i < 15; i++) {
            x.buy();
        }
        x.endTurn();
        Games.pass(x);
        return x;
    }
}
