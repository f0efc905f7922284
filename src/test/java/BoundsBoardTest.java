/** Each sentence of "Terms" about goods, the board and harbours, and promises 1 and 2, that names a bound. */
final class BoundsBoardTest {
    private BoundsBoardTest() {
    }

    public static void main(String[] args) {
        everyPlayer();
        bankHasTwelve();
        goodsByDigits();
        fiveDigitsAtMost();
        edgesThatCloseARing();
        edgesAcross();
        corners();
        hexagonsThatCloseTheRing();
        hexagonsAtFirst();
        layEveryGoodAndNumber();
        layUntilAHouseIsPlaced();
        harboursCorners();
        harboursNeedAnOwnBuilding();
        harbourOfAnyBesideHarbourOfAGood();
        Check.end();
    }

    private static int power(int good) {
        int[] powers = {1, 10, 100, 1000, 10000};
        return powers[good];
    }

    /** "There are the players 0 to 2." "player: a player, or 3 for the bank" */
    private static void everyPlayer() {
        Hexstead x = new Hexstead();
        for (int player = 0; player < 3; player++) {
            int p = player;
            Check.same("4: player " + p, x.deal(p, 11111), 5);
            Check.same("24: player " + p, x.hand(p, 0), 1);
            Check.same("25: player " + p, x.handByMoves(p, 0), 1);
            Check.same("26: player " + p, x.due(p), 0);
            Check.same("27: player " + p, x.points(p), 0);
            Check.same("28: player " + p, x.trail(p), 0);
            Check.same("29: player " + p, x.trailBySets(p), 0);
            Check.same("31: player " + p, x.knights(p), 0);
            Check.same("32: player " + p, x.cards(p, 4), 0);
            Check.same("36: player " + p, x.rate(p, 4), 4);
            Check.same("37: player " + p, x.wouldGet(p, 4, 12), 0);
        }
        Check.same("24: the bank is 3", x.hand(3, 4), 9);
        Check.same("25: the bank is 3", x.handByMoves(3, 4), 9);
        Check.refused("24: 4 is nobody", x, Check.INDEX, () -> x.hand(4, 0));
        Check.refused("25: 4 is nobody", x, Check.INDEX, () -> x.handByMoves(4, 0));
        Check.refused("4: nothing is dealt to the bank", x, Check.INDEX, () -> x.deal(3, 0));
    }

    /** "The bank has 12 of each at first, players have none." */
    private static void bankHasTwelve() {
        for (int good = 0; good < 5; good++) {
            int g = good;
            Hexstead x = new Hexstead();
            Check.same("1: the bank has 12 of " + g, x.hand(3, g), 12);
            x.deal(0, 9 * power(g));
            Check.refused("4: a 13th of " + g, x, Check.STATE, () -> x.deal(1, 4 * power(g)));
            Check.same("4: the 12th of " + g, x.deal(1, 3 * power(g)), 3);
            Check.same("24: none is left of " + g, x.hand(3, g), 0);
            Check.same("25: none is left of " + g, x.handByMoves(3, g), 0);
            Check.refused("4: one of none, of " + g, x, Check.STATE, () -> x.deal(2, power(g)));
            Check.same("4: none of none, of " + g, x.deal(2, 0), 0);
            Check.same("4: of the others as before", x.deal(2, 11111 - power(g)), 4);
        }
    }

    /** "its last digit is how many BRICK, the one ahead of that how many WOOD, and so on" */
    private static void goodsByDigits() {
        Hexstead x = new Hexstead();
        x.deal(2, 98765);
        for (int good = 0; good < 5; good++) {
            Check.same("4: digit " + good, x.hand(2, good), 5 + good);
            Check.same("24: what the bank has then, " + good, x.hand(3, good), 7 - good);
            Hexstead y = new Hexstead();
            y.deal(1, power(good));
            for (int other = 0; other < 5; other++) {
                Check.same("4: one of " + good, y.hand(1, other), other == good ? 1 : 0);
            }
        }
    }

    /** "a number of at most five digits", "0 to 99999" */
    private static void fiveDigitsAtMost() {
        Hexstead x = new Hexstead();
        Check.same("4: no goods", x.deal(0, 0), 0);
        Check.refused("4: below no goods", x, Check.ARGUMENT, () -> x.deal(0, -1));
        Check.refused("4: six digits", x, Check.ARGUMENT, () -> x.deal(0, 100000));
        Check.refused("4: six digits, the last of them all 0 but one", x, Check.ARGUMENT, () -> x.deal(0, 100001));
        Check.same("4: nine of each", x.deal(0, 99999), 45);
    }

    /** "(5 and 0)" of the edge 5, "(23 and 6)" of the edge 29 */
    private static void edgesThatCloseARing() {
        int[][] rows = {{5, 5, 0}, {0, 0, 1}, {4, 4, 5}, {29, 23, 6}, {12, 6, 7}, {28, 22, 23}};
        for (int[] row : rows) {
            edgeJoins(row[0], row[1], row[2]);
        }
    }

    /** "the edge 6 + i, for i from 0 to 5, the corners i and 6 + 3 * i" */
    private static void edgesAcross() {
        for (int i = 0; i < 6; i++) {
            edgeJoins(6 + i, i, 6 + 3 * i);
        }
    }

    private static void edgeJoins(int edge, int one, int other) {
        for (int corner = 0; corner < 24; corner++) {
            int c = corner;
            Hexstead x = new Hexstead();
            String due = c == one || c == other ? "nothing" : Check.STATE.getName();
            Check.same("3: edge " + edge + " at the corner " + c, Check.thrownBy(() -> x.place(c, edge)), due);
        }
        Hexstead x = new Hexstead();
        x.place(one, edge);
        for (int free = 0; free < 30; free++) {
            int f = free;
            Check.refused("3: a house at each end of " + edge, x, Check.STATE, () -> x.place(other, f));
        }
    }

    /** "Corners are 0 to 23, edges 0 to 29" */
    private static void corners() {
        Hexstead x = new Hexstead();
        Check.same("3: the corner 0 and the edge 0", x.place(0, 0), 1);
        Check.same("3: the corner 23 and the edge 29", x.place(23, 29), 2);
        Check.same("33: the corner 0", x.buildingAt(0), 0);
        Check.same("33: the corner 23", x.buildingAt(23), 1);
        Check.same("33: nothing", x.buildingAt(22), Hexstead.NONE);
        Check.same("34: the edge 0", x.roadAt(0), 0);
        Check.same("34: the edge 29", x.roadAt(29), 1);
        Check.same("34: none", x.roadAt(28), Hexstead.NONE);
    }

    /** "(5 and 0 for 6)", "(21, 22, 23 and 6 for 6)", "The hexagon 0 has the corners 0 to 5." */
    private static void hexagonsThatCloseTheRing() {
        int[][] corners = {{0, 1, 2, 3, 4, 5}, {0, 1, 6, 7, 8, 9}, {4, 5, 18, 19, 20, 21}, {5, 0, 21, 22, 23, 6}};
        int[] hexes = {0, 1, 5, 6};
        for (int i = 0; i < hexes.length; i++) {
            for (int corner = 0; corner < 24; corner++) {
                Hexstead x = Games.deserts();
                x.layHex(hexes[i], Hexstead.BRICK, 2);
                for (int player = 0; player < 3; player++) {
                    placeAnywhere(x, corner, 8);
                }
                placeAt(x, corner);
                int due = Model.has(corners[i], corner) ? 1 : 0;
                Check.same("3: hexagon " + hexes[i] + ", second house at " + corner, x.hand(2, 0), due);
            }
        }
    }

    private static void placeAt(Hexstead x, int corner) {
        int ahead = x.turn() * 100 + x.phase();
        boolean done = false;
        for (int edge = 0; edge < 30 && !done; edge++) {
            int e = edge;
            done = Check.thrownBy(() -> x.place(corner, e)).equals("nothing");
        }
        Check.same("3: placed at " + corner + ", from " + ahead, done ? 1 : 0, 1);
    }

    /** A first house far from a corner. */
    private static void placeAnywhere(Hexstead x, int corner, int distance) {
        for (int i = 0; i < 24; i++) {
            int there = 6 + (corner + distance + i) % 18;
            boolean done = false;
            for (int edge = 0; edge < 30 && !done && !isNear(there, corner); edge++) {
                int e = edge;
                done = Check.thrownBy(() -> x.place(there, e)).equals("nothing");
            }
            if (done) {
                return;
            }
        }
    }

    private static boolean isNear(int one, int other) {
        for (int edge = 0; edge < 30; edge++) {
            if (Model.has(Model.ends(edge), one) && Model.has(Model.ends(edge), other)) {
                return true;
            }
        }
        return one == other;
    }

    /** "At first the hexagon 0 is a DESERT, and 1 to 6 are for BRICK, WOOD, WOOL, GRAIN, ORE and WOOD" */
    private static void hexagonsAtFirst() {
        int[] goods = {0, 1, 2, 3, 4, 1};
        int[] numbers = {6, 5, 9, 4, 10, 8};
        int[] corners = {7, 10, 13, 16, 19, 22};
        for (int i = 0; i < 6; i++) {
            Hexstead x = new Hexstead();
            placeAt(x, corners[i]);
            Check.same("1: hexagon " + (i + 1), x.wouldGet(0, goods[i], numbers[i]), 1);
            Check.same("1: not one below", x.wouldGet(0, goods[i], numbers[i] - 1), 0);
            Check.same("1: not one above", x.wouldGet(0, goods[i], numbers[i] + 1), 0);
        }
        Hexstead x = new Hexstead();
        placeAt(x, 2);
        int all = 0;
        for (int good = 0; good < 5; good++) {
            all += x.wouldGet(0, good, 7);
        }
        Check.same("1: the DESERT has no number that bears", all, 0);
        Check.same("1: the robber is on 0", x.robber(), 0);
    }

    /** "a number, 2 to 12, but not 7; or it is a DESERT" */
    private static void layEveryGoodAndNumber() {
        for (int good = -1; good <= 6; good++) {
            for (int number = 0; number <= 14; number++) {
                int g = good;
                int n = number;
                boolean desert = g == 5 && n == 7;
                boolean bears = g >= 0 && g <= 4 && n >= 2 && n <= 12 && n != 7;
                Hexstead x = new Hexstead();
                String due = desert || bears ? "nothing" : Check.ARGUMENT.getName();
                Check.same("2: " + g + " with " + n, Check.thrownBy(() -> x.layHex(1, g, n)), due);
                x.place(7, 12);
                Check.same("2: as it was or not, " + g + " with " + n, x.wouldGet(0, 0, 6),
                        bears ? g == 0 && n == 6 ? 1 : 0 : desert ? 0 : 1);
                if (bears) {
                    Check.same("2: as it is laid, " + g + " with " + n, x.wouldGet(0, g, n), 1);
                }
            }
        }
        Hexstead x = new Hexstead();
        x.layHex(6, Hexstead.ORE, 12);
        x.layHex(6, Hexstead.WOOL, 2);
        x.place(22, 27);
        Check.same("2: laid twice, the last counts", x.wouldGet(0, Hexstead.WOOL, 2), 1);
        Check.same("2: laid twice, the first is gone", x.wouldGet(0, Hexstead.ORE, 12), 0);
        x.place(13, 18);
        Check.same("2: a laid hexagon is the only one changed", x.wouldGet(1, Hexstead.WOOL, 9), 1);
    }

    /** "if a house was placed" */
    private static void layUntilAHouseIsPlaced() {
        Hexstead x = new Hexstead();
        x.deal(0, 11111);
        Check.same("2: behind a deal", Check.thrownBy(() -> x.layHex(0, 0, 2)), "nothing");
        Check.refused("3: a refused house", x, Check.STATE, () -> x.place(7, 0));
        Check.same("2: behind a refused house", Check.thrownBy(() -> x.layHex(6, 5, 7)), "nothing");
        x.place(13, 18);
        for (int hex = 0; hex < 7; hex++) {
            int h = hex;
            Check.refused("2: a house was placed", x, Check.STATE, () -> x.layHex(h, 0, 2));
            Check.refused("2: a house was placed", x, Check.STATE, () -> x.layHex(h, 5, 7));
        }
    }

    /** "The corners 7 + 3 * k and 8 + 3 * k, for k from 0 to 5, have the harbour k." "without harbours, 4" */
    private static void harboursCorners() {
        for (int corner = 0; corner < 24; corner++) {
            Hexstead x = Games.deserts();
            placeAt(x, corner);
            int harbour = corner < 7 || corner % 3 == 0 ? -1 : (corner - 7) / 3;
            for (int good = 0; good < 5; good++) {
                int due = harbour == 5 ? 3 : harbour == good ? 2 : 4;
                Check.same("36: corner " + corner + ", good " + good, x.rate(0, good), due);
            }
        }
    }

    /** "Who has a house or a city at the harbour": not who has a road there, or whose neighbour has. */
    private static void harboursNeedAnOwnBuilding() {
        Hexstead x = Games.deserts();
        x.place(9, 14);
        Check.same("36: a road alone", x.rate(0, 0), 4);
        x.place(7, 12);
        Check.same("36: another's house", x.rate(0, 0), 4);
        Check.same("36: an own house", x.rate(1, 0), 2);
        for (int player = 0; player < 3; player++) {
            Hexstead y = Games.placedFor(player);
            y.deal(player, 32000);
            Check.same("36: a house at 7", y.rate(player, 0), 2);
            Games.passTo(y, player);
            y.roll(1, 1);
            y.city(7);
            Check.same("36: a city at 7", y.rate(player, 0), 2);
            Check.same("36: the next one has 13", y.rate((player + 1) % 3, 2), 2);
            Check.same("36: the last one has 16", y.rate((player + 2) % 3, 3), 2);
            Check.same("36: neither has 7", y.rate((player + 1) % 3, 0) + y.rate((player + 2) % 3, 0), 8);
        }
    }

    /** "at the harbour 5, 3 of any; without harbours, 4. The fewest count." */
    private static void harbourOfAnyBesideHarbourOfAGood() {
        Hexstead x = Games.deserts();
        x.place(23, 28);
        x.place(2, 8);
        x.place(4, 10);
        x.place(16, 21);
        x.place(13, 18);
        Check.same("36: 3 of BRICK", x.rate(0, 0), 3);
        x.place(8, 13);
        int[] due = {2, 3, 3, 3, 3};
        for (int good = 0; good < 5; good++) {
            Check.same("36: the fewest of good " + good, x.rate(0, good), due[good]);
        }
        Hexstead y = Games.deserts();
        y.place(8, 13);
        y.place(2, 8);
        y.place(4, 10);
        y.place(16, 21);
        y.place(13, 18);
        y.place(23, 28);
        for (int good = 0; good < 5; good++) {
            Check.same("36: in the other order, of good " + good, y.rate(0, good), due[good]);
        }
    }
}
