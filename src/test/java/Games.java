/** Games that tests begin with. */
final class Games {
    private Games() {
    }

    /**
     * 0 has the corners 0 and 7 with the edges 6 and 12, 1 has 2 and 13 with 8 and 18, 2 has 4 and 16 with 10 and 21;
     * the second houses have brought 0 a BRICK, 1 a WOOL and 2 a GRAIN.
     */
    static Hexstead placed() {
        Hexstead x = new Hexstead();
        placeAll(x);
        return x;
    }

    /** The same places, but nothing is ever borne: all hexagons are deserts. */
    static Hexstead placedOnDeserts() {
        Hexstead x = deserts();
        placeAll(x);
        return x;
    }

    /**
     * On deserts, for each player to be the one that a test is about: that player has 0 and 7 with the edges 6 and 12,
     * the next one 2 and 13 with 8 and 18, the last one 4 and 16 with 10 and 21.
     */
    static Hexstead placedFor(int me) {
        int[][] corners = {{0, 7}, {2, 13}, {4, 16}};
        int[][] edges = {{6, 12}, {8, 18}, {10, 21}};
        int[] order = {0, 1, 2, 2, 1, 0};
        Hexstead x = deserts();
        for (int i = 0; i < 6; i++) {
            int part = (order[i] - me + 3) % 3;
            x.place(corners[part][i / 3], edges[part][i / 3]);
        }
        return x;
    }

    static Hexstead deserts() {
        Hexstead x = new Hexstead();
        for (int hex = 0; hex < 7; hex++) {
            x.layHex(hex, Hexstead.DESERT, 7);
        }
        return x;
    }

    private static void placeAll(Hexstead x) {
        x.place(0, 6);
        x.place(2, 8);
        x.place(4, 10);
        x.place(16, 21);
        x.place(13, 18);
        x.place(7, 12);
    }

    /**
     * On deserts: 0 has 7 and 9 with the edges 12 and 15, 1 has 4 and 0 with 3 and 5, 2 has 13 and 17 with 18 and 22.
     * All have the goods for the roads with which 2 gets a trail of 6, then 0 and 1 of 5, and what 0 needs for
     * three cities; 1 can part the trail of 2 by a house at 15.
     */
    static Hexstead race() {
        Hexstead x = deserts();
        x.place(7, 12);
        x.place(4, 3);
        x.place(13, 18);
        x.place(17, 22);
        x.place(0, 5);
        x.place(9, 15);
        x.deal(0, 97144);
        x.deal(1, 1144);
        x.deal(2, 44);
        return x;
    }

    /** A roll that bears nothing on the board as told, and the end of the turn. */
    static void pass(Hexstead x) {
        x.roll(1, 1);
        x.endTurn();
    }

    static void passUntil(Hexstead x, int player) {
        for (int turns = 0; turns < 3 && (turns == 0 || x.turn() != player); turns++) {
            pass(x);
        }
    }

    static void passTo(Hexstead x, int player) {
        for (int turns = 0; turns < 2 && x.turn() != player; turns++) {
            pass(x);
        }
    }

    static int total(Hexstead x, int holder) {
        int sum = 0;
        for (int good = 0; good < 5; good++) {
            sum += x.hand(holder, good);
        }
        return sum;
    }

    /** The goods of a holder with ten or more of none, as the number that tells them. */
    static int goods(Hexstead x, int holder) {
        int number = 0;
        for (int good = 4; good >= 0; good--) {
            number = number * 10 + x.hand(holder, good);
        }
        return number;
    }
}
