/** Promises 1 to 4, 22 to 25 and 33 to 35: a new object, laying hexagons, placing and dealing. */
final class StartTest {
    private static final int[] LOW = {-1, Integer.MIN_VALUE};

    private StartTest() {
    }

    public static void main(String[] args) {
        newObject();
        boardAsTold();
        everyCornerOfEveryHexagon();
        everyEdgeAtPlacing();
        layHex();
        layHexRefused();
        placeOrder();
        placeRefused();
        secondHouseTakes();
        secondHouseFromShortBank();
        deal();
        dealRefused();
        whatIsSoRefused();
        Check.end();
    }

    private static void newObject() {
        Hexstead x = new Hexstead();
        Check.same("1: phase", x.phase(), Hexstead.PLACE);
        Check.same("1: turn", x.turn(), 0);
        Check.same("1: robber", x.robber(), 0);
        Check.same("1: trail holder", x.holder(false), Hexstead.NONE);
        Check.same("1: army holder", x.holder(true), Hexstead.NONE);
        for (int good = 0; good < 5; good++) {
            Check.same("1: bank", x.hand(3, good), 12);
            Check.same("1: bank by moves", x.handByMoves(3, good), 12);
            for (int player = 0; player < 3; player++) {
                Check.same("1: hand", x.hand(player, good), 0);
                Check.same("1: hand by moves", x.handByMoves(player, good), 0);
                Check.same("1: rate", x.rate(player, good), 4);
                Check.same("1: cards", x.cards(player, good), 0);
            }
        }
        for (int player = 0; player < 3; player++) {
            Check.same("1: due", x.due(player), 0);
            Check.same("1: points", x.points(player), 0);
            Check.same("1: trail", x.trail(player), 0);
            Check.same("1: trail by sets", x.trailBySets(player), 0);
            Check.same("1: knights", x.knights(player), 0);
        }
        for (int corner = 0; corner < 24; corner++) {
            Check.same("1: building", x.buildingAt(corner), Hexstead.NONE);
        }
        for (int edge = 0; edge < 30; edge++) {
            Check.same("1: road", x.roadAt(edge), Hexstead.NONE);
        }
    }

    /** A house at a corner that just one hexagon has, on a board as it is at first. */
    private static void boardAsTold() {
        int[] corners = {7, 10, 13, 16, 19, 22};
        int[] edges = {12, 15, 18, 21, 24, 27};
        int[] goods = {0, 1, 2, 3, 4, 1};
        int[] numbers = {6, 5, 9, 4, 10, 8};
        for (int i = 0; i < 6; i++) {
            Hexstead x = new Hexstead();
            x.place(corners[i], edges[i]);
            for (int good = 0; good < 5; good++) {
                for (int sum = 2; sum <= 12; sum++) {
                    int due = good == goods[i] && sum == numbers[i] ? 1 : 0;
                    Check.same("1: hexagon " + (i + 1) + " good " + good + " sum " + sum, x.wouldGet(0, good, sum), due);
                }
            }
        }
        Hexstead x = new Hexstead();
        x.place(3, 3);
        Check.same("1: desert", x.wouldGet(0, 2, 7) + x.wouldGet(0, 3, 7), 0);
        Check.same("1: hexagon 3 from inside", x.wouldGet(0, 2, 9), 1);
        Check.same("1: hexagon 4 from inside", x.wouldGet(0, 3, 4), 1);
    }

    /** Written out from the document, apart from the rule that the class reckons them by. */
    private static final int[][] CORNERS_OF = {
        {0, 1, 2, 3, 4, 5}, {0, 1, 6, 7, 8, 9}, {1, 2, 9, 10, 11, 12}, {2, 3, 12, 13, 14, 15},
        {3, 4, 15, 16, 17, 18}, {4, 5, 18, 19, 20, 21}, {5, 0, 21, 22, 23, 6},
    };
    private static final int[][] ENDS_OF = {
        {0, 1}, {1, 2}, {2, 3}, {3, 4}, {4, 5}, {5, 0},
        {0, 6}, {1, 9}, {2, 12}, {3, 15}, {4, 18}, {5, 21},
        {6, 7}, {7, 8}, {8, 9}, {9, 10}, {10, 11}, {11, 12}, {12, 13}, {13, 14}, {14, 15}, {15, 16}, {16, 17},
        {17, 18}, {18, 19}, {19, 20}, {20, 21}, {21, 22}, {22, 23}, {23, 6},
    };

    private static boolean has(int[] row, int number) {
        for (int each : row) {
            if (each == number) {
                return true;
            }
        }
        return false;
    }

    private static int edgeOf(int corner) {
        for (int edge = 0; edge < 30; edge++) {
            if (has(ENDS_OF[edge], corner)) {
                return edge;
            }
        }
        return -1;
    }

    private static void everyCornerOfEveryHexagon() {
        for (int hex = 0; hex < 7; hex++) {
            for (int corner = 0; corner < 24; corner++) {
                Hexstead x = Games.deserts();
                x.layHex(hex, Hexstead.ORE, 3);
                x.place(corner, edgeOf(corner));
                boolean borne = has(CORNERS_OF[hex], corner) && hex != 0;
                Check.same("1: hexagon " + hex + " corner " + corner, x.wouldGet(0, 4, 3), borne ? 1 : 0);
            }
        }
    }

    private static void everyEdgeAtPlacing() {
        for (int corner = 0; corner < 24; corner++) {
            for (int edge = 0; edge < 30; edge++) {
                Hexstead x = new Hexstead();
                int c = corner;
                int e = edge;
                String due = has(ENDS_OF[edge], corner) ? "nothing" : Check.STATE.getName();
                Check.same("3: place " + corner + " " + edge, Check.thrownBy(() -> x.place(c, e)), due);
            }
            for (int next = 0; next < 24; next++) {
                boolean near = next == corner;
                int free = -1;
                for (int edge = 0; edge < 30; edge++) {
                    near |= has(ENDS_OF[edge], corner) && has(ENDS_OF[edge], next);
                    free = has(ENDS_OF[edge], next) && edge != edgeOf(corner) ? edge : free;
                }
                Hexstead x = new Hexstead();
                x.place(corner, edgeOf(corner));
                int n = next;
                int e = free;
                String due = near ? Check.STATE.getName() : "nothing";
                Check.same("3: place " + corner + ", then " + next, Check.thrownBy(() -> x.place(n, e)), due);
            }
        }
    }

    private static void layHex() {
        for (int number = 2; number <= 12; number++) {
            if (number != 7) {
                Hexstead x = new Hexstead();
                x.layHex(1, Hexstead.ORE, number);
                x.place(7, 12);
                Check.same("2: laid with " + number, x.wouldGet(0, Hexstead.ORE, number), 1);
                Check.same("2: not as it was", x.wouldGet(0, Hexstead.BRICK, 6), 0);
            }
        }
        Hexstead x = new Hexstead();
        x.layHex(1, Hexstead.DESERT, 7);
        x.layHex(0, Hexstead.WOOL, 12);
        x.layHex(0, Hexstead.BRICK, 2);
        x.place(0, 0);
        Check.same("2: a desert bears nothing", x.wouldGet(0, Hexstead.BRICK, 6), 0);
        Check.same("2: the robber stays on 0", x.robber(), 0);
        Check.same("2: the robber keeps 0 from bearing", x.wouldGet(0, Hexstead.BRICK, 2), 0);
        Check.same("2: the others are as they were", x.wouldGet(0, Hexstead.WOOD, 8), 1);
    }

    private static void layHexRefused() {
        Hexstead x = new Hexstead();
        for (int low : LOW) {
            Check.refused("2: hex " + low, x, Check.INDEX, () -> x.layHex(low, 9, 99));
            Check.refused("2: good " + low, x, Check.ARGUMENT, () -> x.layHex(1, low, 6));
            Check.refused("2: number " + low, x, Check.ARGUMENT, () -> x.layHex(1, 0, low));
        }
        Check.refused("2: hex 7", x, Check.INDEX, () -> x.layHex(7, 0, 6));
        Check.refused("2: good 6", x, Check.ARGUMENT, () -> x.layHex(6, 6, 6));
        Check.refused("2: number 1", x, Check.ARGUMENT, () -> x.layHex(6, 0, 1));
        Check.refused("2: number 13", x, Check.ARGUMENT, () -> x.layHex(6, 0, 13));
        Check.refused("2: number 7 for a good", x, Check.ARGUMENT, () -> x.layHex(6, 4, 7));
        Check.refused("2: number 6 for a desert", x, Check.ARGUMENT, () -> x.layHex(6, 5, 6));
        x.place(12, 17);
        Check.refused("2: a house was placed", x, Check.STATE, () -> x.layHex(6, 0, 6));
        Check.refused("2: index ahead of state", x, Check.INDEX, () -> x.layHex(7, 0, 6));
        Check.refused("2: argument ahead of state", x, Check.ARGUMENT, () -> x.layHex(6, 0, 7));
        Hexstead y = Games.placed();
        Check.refused("2: they have placed", y, Check.STATE, () -> y.layHex(6, 0, 6));
    }

    private static void placeOrder() {
        Hexstead x = new Hexstead();
        Check.same("3: then 1", x.place(0, 6), 1);
        Check.same("23: 1 is to place", x.turn(), 1);
        Check.same("3: then 2", x.place(2, 8), 2);
        Check.same("3: 2 again", x.place(4, 10), 2);
        Check.same("23: 2 is to place", x.turn(), 2);
        Check.same("3: 1 again", x.place(16, 21), 1);
        Check.same("3: 0 again", x.place(13, 18), 0);
        Check.same("22: still placing", x.phase(), Hexstead.PLACE);
        Check.same("3: the turn of 0", x.place(7, 12), 0);
        Check.same("22: 0 is to roll", x.phase(), Hexstead.ROLL);
        int[] corners = {0, 2, 4, 16, 13, 7};
        int[] edges = {6, 8, 10, 21, 18, 12};
        int[] players = {0, 1, 2, 2, 1, 0};
        for (int i = 0; i < 6; i++) {
            Check.same("33: house of " + players[i], x.buildingAt(corners[i]), players[i]);
            Check.same("34: road of " + players[i], x.roadAt(edges[i]), players[i]);
            Check.same("27: two houses", x.points(players[i]), 2);
        }
        Check.same("33: nothing", x.buildingAt(1), Hexstead.NONE);
        Check.same("34: nobody's", x.roadAt(0), Hexstead.NONE);
    }

    private static void placeRefused() {
        Hexstead x = new Hexstead();
        for (int low : LOW) {
            Check.refused("3: corner " + low, x, Check.INDEX, () -> x.place(low, 6));
            Check.refused("3: edge " + low, x, Check.INDEX, () -> x.place(0, low));
        }
        Check.refused("3: corner 24", x, Check.INDEX, () -> x.place(24, 6));
        Check.refused("3: edge 30", x, Check.INDEX, () -> x.place(0, 30));
        x.place(0, 6);
        Check.refused("3: there is a house", x, Check.STATE, () -> x.place(0, 0));
        Check.refused("3: a house is next to it", x, Check.STATE, () -> x.place(6, 12));
        Check.refused("3: a house is next to it", x, Check.STATE, () -> x.place(5, 4));
        x.place(7, 13);
        Check.refused("3: a road of its corner is there", x, Check.STATE, () -> x.place(9, 13));
        x.place(9, 15);
        Check.refused("3: its edge has a road", x, Check.STATE, () -> x.place(10, 15));
        Check.refused("3: the road has not its corner", x, Check.STATE, () -> x.place(13, 17));
        Check.same("3: nobody has moved on", x.turn(), 2);
        Hexstead y = Games.placed();
        Check.refused("3: all is placed", y, Check.STATE, () -> y.place(10, 15));
        Check.refused("3: index ahead of state", y, Check.INDEX, () -> y.place(24, 15));
        Check.refused("3: index ahead of state", y, Check.INDEX, () -> y.place(10, 30));
    }

    private static void secondHouseTakes() {
        Hexstead x = new Hexstead();
        x.layHex(0, Hexstead.GRAIN, 3);
        x.place(7, 12);
        x.place(10, 15);
        x.place(13, 18);
        Check.same("3: nothing for first houses", Games.total(x, 0) + Games.total(x, 1) + Games.total(x, 2), 0);
        x.place(4, 4);
        Check.same("3: three hexagons, that of the robber too", Games.goods(x, 2), 12000);
        x.place(2, 1);
        Check.same("3: of two goods and the robber's", Games.goods(x, 1), 1110);
        x.place(22, 27);
        Check.same("3: of one hexagon", Games.goods(x, 0), 10);
        Check.same("24: the bank has the rest", x.hand(3, Hexstead.GRAIN), 9);
        Check.same("25: the bank has the rest", x.handByMoves(3, Hexstead.GRAIN), 9);
    }

    private static void secondHouseFromShortBank() {
        Hexstead x = new Hexstead();
        x.layHex(0, Hexstead.GRAIN, 3);
        x.layHex(3, Hexstead.GRAIN, 11);
        x.deal(0, 9000);
        x.deal(1, 2000);
        x.place(7, 12);
        x.place(10, 15);
        x.place(13, 18);
        x.place(3, 3);
        Check.same("3: three are of a good of which there is one", x.hand(2, Hexstead.GRAIN), 1);
        x.place(1, 0);
        Check.same("3: none is left, others are", Games.goods(x, 1), 2011);
        Check.same("3: the bank has none", x.hand(3, Hexstead.GRAIN), 0);
    }

    private static void deal() {
        Hexstead x = new Hexstead();
        Check.same("4: deal while placing", x.deal(2, 54321), 15);
        Check.same("4: nothing at all", x.deal(2, 0), 15);
        Check.same("4: the first is BRICK", x.hand(2, 0), 1);
        Check.same("4: the last is ORE", x.hand(2, 4), 5);
        Check.same("4: from the bank", x.hand(3, 4), 7);
        Check.same("4: more", x.deal(2, 70000), 22);
        Check.same("4: all ORE", x.hand(2, 4), 12);
        Check.same("25: all ORE", x.handByMoves(2, 4), 12);
        Hexstead y = Games.placed();
        Check.same("4: deal ahead of rolling", y.deal(0, 3), 4);
        Check.same("4: to another one", y.deal(1, 99998), 45);
    }

    private static void dealRefused() {
        Hexstead x = new Hexstead();
        for (int low : LOW) {
            Check.refused("4: player " + low, x, Check.INDEX, () -> x.deal(low, -1));
            Check.refused("4: goods " + low, x, Check.ARGUMENT, () -> x.deal(0, low));
        }
        Check.refused("4: player 3", x, Check.INDEX, () -> x.deal(3, 1));
        Check.refused("4: goods 100000", x, Check.ARGUMENT, () -> x.deal(0, 100000));
        x.deal(0, 90000);
        Check.refused("4: the bank has fewer", x, Check.STATE, () -> x.deal(1, 40000));
        Check.refused("4: of one good", x, Check.STATE, () -> x.deal(1, 41111));
        Check.same("4: just as many", x.deal(1, 31111), 7);
        Hexstead y = Games.placed();
        y.roll(1, 1);
        Check.refused("4: somebody has rolled", y, Check.STATE, () -> y.deal(0, 1));
        Check.refused("4: nothing, too", y, Check.STATE, () -> y.deal(0, 0));
        y.endTurn();
        Check.refused("4: in the next turn", y, Check.STATE, () -> y.deal(0, 1));
        Check.refused("4: argument ahead of state", y, Check.ARGUMENT, () -> y.deal(0, 100000));
        Check.refused("4: index ahead of state", y, Check.INDEX, () -> y.deal(3, 1));
    }

    private static void whatIsSoRefused() {
        Hexstead x = new Hexstead();
        int[] wrong = {-1, Integer.MIN_VALUE, 4, Integer.MAX_VALUE};
        for (int index : wrong) {
            Check.refused("24: player " + index, x, Check.INDEX, () -> x.hand(index, 9));
            Check.refused("25: player " + index, x, Check.INDEX, () -> x.handByMoves(index, 9));
        }
        int[] noPlayers = {-1, 3, Integer.MIN_VALUE, Integer.MAX_VALUE};
        for (int index : noPlayers) {
            Check.refused("26: player " + index, x, Check.INDEX, () -> x.due(index));
            Check.refused("27: player " + index, x, Check.INDEX, () -> x.points(index));
            Check.refused("28: player " + index, x, Check.INDEX, () -> x.trail(index));
            Check.refused("29: player " + index, x, Check.INDEX, () -> x.trailBySets(index));
            Check.refused("31: player " + index, x, Check.INDEX, () -> x.knights(index));
            Check.refused("32: player " + index, x, Check.INDEX, () -> x.cards(index, 5));
            Check.refused("36: player " + index, x, Check.INDEX, () -> x.rate(index, 5));
            Check.refused("37: player " + index, x, Check.INDEX, () -> x.wouldGet(index, 5, 1));
        }
        int[] noGoods = {-1, 5, Integer.MIN_VALUE, Integer.MAX_VALUE};
        for (int good : noGoods) {
            Check.refused("24: good " + good, x, Check.ARGUMENT, () -> x.hand(3, good));
            Check.refused("25: good " + good, x, Check.ARGUMENT, () -> x.handByMoves(3, good));
            Check.refused("32: kind " + good, x, Check.ARGUMENT, () -> x.cards(2, good));
            Check.refused("36: good " + good, x, Check.ARGUMENT, () -> x.rate(2, good));
            Check.refused("37: good " + good, x, Check.ARGUMENT, () -> x.wouldGet(2, good, 6));
        }
        int[] noSums = {1, 13, 0, -1, Integer.MAX_VALUE};
        for (int sum : noSums) {
            Check.refused("37: sum " + sum, x, Check.ARGUMENT, () -> x.wouldGet(0, 0, sum));
        }
        Check.refused("33: corner 24", x, Check.INDEX, () -> x.buildingAt(24));
        Check.refused("33: corner -1", x, Check.INDEX, () -> x.buildingAt(-1));
        Check.refused("34: edge 30", x, Check.INDEX, () -> x.roadAt(30));
        Check.refused("34: edge -1", x, Check.INDEX, () -> x.roadAt(-1));
    }
}
