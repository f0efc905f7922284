/**
 * Plays whole games of 512 calls by a fixed row of numbers, wrong arguments among them, and behind each call
 * looks at what has to be so in every game, whatever was called.
 */
final class PlayTest {
    private static final int GAMES = 150, CALLS = 512;
    private static final int[][] ENDS = ends();

    private long seed;
    private Hexstead x;
    private boolean indexWrong;
    private boolean argumentWrong;
    private int won;
    private int doneAhead;
    private final int[] done = new int[20];

    private PlayTest(long seed) {
        this.seed = seed;
    }

    public static void main(String[] args) {
        PlayTest play = new PlayTest(20261119);
        for (int game = 0; game < GAMES; game++) {
            play.game();
        }
        for (int call = 0; call < play.done.length; call++) {
            Check.same("call " + call + " was done at times", play.done[call] > 0 ? 1 : 0, 1);
        }
        System.out.println("done " + java.util.Arrays.toString(play.done) + " won " + play.won);
        Check.same("games were won at times", play.won > 0 ? 1 : 0, 1);
        Check.end();
    }

    private static int[][] ends() {
        int[][] ends = new int[30][];
        for (int i = 0; i < 6; i++) {
            ends[i] = new int[] {i, i == 5 ? 0 : i + 1};
            ends[6 + i] = new int[] {i, 6 + 3 * i};
        }
        for (int j = 0; j < 18; j++) {
            ends[12 + j] = new int[] {6 + j, j == 17 ? 6 : 7 + j};
        }
        return ends;
    }

    private int below(int bound) {
        seed = seed * 6364136223846793005L + 1442695040888963407L;
        return (int) ((seed >>> 33) % bound);
    }

    /** Mostly in range; now and then next to it, or far off. */
    private int near(int low, int high) {
        if (below(60) > 0) {
            return low + below(high - low + 1);
        }
        int[] off = {low - 1, high + 1, Integer.MIN_VALUE, Integer.MAX_VALUE};
        return off[below(4)];
    }

    private int index(int low, int high) {
        int index = near(low, high);
        indexWrong |= index < low || index > high;
        return index;
    }

    private int argument(int low, int high) {
        int argument = near(low, high);
        argumentWrong |= argument < low || argument > high;
        return argument;
    }

    private int few() {
        int goods = below(20) == 0 ? near(0, 99999) : power(below(5)) * (1 + below(3)) + power(below(5)) * below(2);
        return inRange(goods, 0);
    }

    private int inRange(int goods, int least) {
        argumentWrong |= goods < least || goods > 99999;
        return goods;
    }

    private int dealt() {
        int goods = 0;
        for (int good = 0; good < 5; good++) {
            goods += power(good) * below(4);
        }
        return below(6) == 0 ? few() : inRange(goods, 0);
    }

    /** Mostly one of the goods that a player has, so that some bargains are struck. */
    private int side(int player) {
        int from = below(5);
        for (int i = 0; i < 5 && player >= 0 && player < 3 && below(10) > 0; i++) {
            if (x.hand(player, (from + i) % 5) > 0) {
                return power((from + i) % 5);
            }
        }
        return inRange(below(10) == 0 ? near(0, 99999) : power(from) * below(4), 1);
    }

    private static int power(int good) {
        int goods = 1;
        for (int i = 0; i < good; i++) {
            goods *= 10;
        }
        return goods;
    }

    private void game() {
        x = new Hexstead();
        doneAhead = done[3];
        int[] numbers = {5, 6, 8, 9};
        for (int hex = 0; hex < 7 && below(8) > 0; hex++) {
            x.layHex(hex, hex % 5, numbers[below(4)]);
        }
        for (int made = 0; made < CALLS; made++) {
            boolean over = x.phase() == Hexstead.OVER;
            step(pick());
            if (!over && x.phase() == Hexstead.OVER) {
                won++;
                made = Math.max(made, CALLS - 40);
            }
        }
    }

    /** Calls that fit the time are picked more often, or no game would come far. */
    private int pick() {
        int phase = x.phase();
        if (below(8) == 0) {
            return below(20);
        }
        if (phase == Hexstead.PLACE) {
            return below(6) == 0 ? 2 : 1;
        }
        if (phase == Hexstead.ROLL && done[3] == doneAhead && below(12) > 0) {
            return 2;
        }
        if (phase == Hexstead.ROLL) {
            return below(3) == 0 ? 10 + below(4) : below(8) == 0 ? 2 : 3;
        }
        if (phase == Hexstead.DISCARD) {
            return 4;
        }
        if (phase == Hexstead.ROB) {
            return 5;
        }
        if (below(2) == 0) {
            return affordable();
        }
        int[] others = {10, 11, 12, 13, 14, 14, 14, 14, 15, 16, 17, 18, 19, 19, 19};
        return others[below(15)];
    }

    /** The dearest that the player has the goods for: who buys at random never has enough for a city. */
    private int affordable() {
        int player = x.turn();
        int grain = x.hand(player, Hexstead.GRAIN);
        int ore = x.hand(player, Hexstead.ORE);
        int wool = x.hand(player, Hexstead.WOOL);
        int pairs = Math.min(x.hand(player, Hexstead.BRICK), x.hand(player, Hexstead.WOOD));
        if (ore >= 3 && grain >= 2 && below(8) > 0) {
            return 8;
        }
        if (pairs > 0 && wool > 0 && grain > 0 && below(3) > 0) {
            return 7;
        }
        if (pairs > 0) {
            return 6;
        }
        return ore > 0 && grain > 0 && wool > 0 && below(3) == 0 ? 9 : 14;
    }

    private void step(int call) {
        indexWrong = false;
        argumentWrong = false;
        String ahead = Snapshot.of(x);
        int trailHolder = x.holder(false);
        int phase = x.phase();
        int turn = x.turn();
        Check.Call made = callOf(call);
        String thrown = Check.thrownBy(made);
        String told = "call " + call + " " + thrown;
        if (indexWrong) {
            Check.same(told, thrown, Check.INDEX.getName());
        } else if (argumentWrong) {
            Check.same(told, thrown, Check.ARGUMENT.getName());
        } else if (!thrown.equals("nothing")) {
            Check.same(told, thrown, Check.STATE.getName());
        }
        if (!thrown.equals("nothing")) {
            Check.same(told + " changes nothing", Snapshot.of(x), ahead);
            return;
        }
        done[call]++;
        lookAtGoods(told);
        lookAtTrails(told, trailHolder);
        lookAtPoints(told);
        if (phase != Hexstead.PLACE) {
            boolean over = x.points(x.turn()) >= 8;
            Check.same(told + " over", x.phase() == Hexstead.OVER ? 1 : 0, over ? 1 : 0);
            Check.same(told + " turn", x.turn(), call == 19 ? (turn + 1) % 3 : turn);
        }
    }

    private Check.Call callOf(int call) {
        int a;
        int b;
        int c;
        switch (call) {
            case 0:
                a = index(0, 6);
                b = argument(0, 5);
                c = below(10) == 0 ? 7 : argument(2, 12);
                argumentWrong |= (b == 5) != (c == 7);
                return () -> x.layHex(a, b, c);
            case 1:
                a = index(0, 23);
                b = index(0, 29);
                return () -> x.place(a, b);
            case 2:
                a = index(0, 2);
                b = dealt();
                return () -> x.deal(a, b);
            case 3:
                a = argument(1, 6);
                b = argument(1, 6);
                return () -> rollAsTold(a, b);
            case 4:
                a = index(0, 2);
                b = below(4) == 0 ? few() : halfOf(a);
                return () -> x.discard(a, b);
            case 5:
            case 10:
                a = index(0, 6);
                b = index(-1, 2);
                c = argument(0, 999);
                return call == 5 ? () -> x.rob(a, b, c) : () -> x.knight(a, b, c);
            case 6:
                a = below(4) == 0 ? index(0, 29) : nextEdge();
                return () -> Check.same("road", x.road(a), longest(x, x.turn()));
            case 7:
                a = below(4) == 0 ? index(0, 23) : nextCorner();
                return () -> x.house(a);
            case 8:
                a = below(4) == 0 ? index(0, 23) : ownHouse();
                return () -> x.city(a);
            case 9:
                return x::buy;
            case 11:
                a = index(0, 29);
                b = below(4) == 0 ? -1 : index(-1, 29);
                return () -> Check.same("roads", x.roads(a, b), longest(x, x.turn()));
            case 12:
                a = argument(0, 4);
                b = argument(0, 4);
                return () -> x.plenty(a, b);
            case 13:
                a = argument(0, 4);
                return () -> x.monopoly(a);
            default:
                return swapping(call);
        }
    }

    private Check.Call swapping(int call) {
        int a;
        int b;
        int c;
        switch (call) {
            case 14:
                a = below(4) == 0 ? argument(0, 4) : mostOf(x.turn());
                b = argument(0, 4);
                argumentWrong |= a == b;
                return () -> x.swap(a, b);
            case 15:
                a = side(x.turn());
                b = side(below(3));
                return () -> x.offer(a, b);
            case 16:
                a = index(0, 2);
                b = side(a);
                c = side(x.turn());
                return () -> x.counter(a, b, c);
            case 17:
                a = index(0, 2);
                return () -> Check.same("accept", x.accept(a), Games.total(x, a));
            case 18:
                a = index(0, 2);
                return () -> Check.same("agree", x.agree(a), Games.total(x, x.turn()));
            default:
                return x::endTurn;
        }
    }

    private static boolean joins(int edge, int corner) {
        return ENDS[edge][0] == corner || ENDS[edge][1] == corner;
    }

    /** An edge without a road, next to an own road if there is one. */
    private int nextEdge() {
        int from = below(30);
        for (int i = 0; i < 900; i++) {
            int own = (from + i) % 30;
            int next = i / 30;
            boolean meets = joins(next, ENDS[own][0]) || joins(next, ENDS[own][1]);
            if (meets && x.roadAt(own) == x.turn() && x.roadAt(next) == Hexstead.NONE) {
                return next;
            }
        }
        return from;
    }

    /** A corner with room for a house at an own road if there is one. */
    private int nextCorner() {
        int from = below(24);
        for (int i = 0; i < 24; i++) {
            int corner = (from + i) % 24;
            boolean own = false;
            boolean room = true;
            for (int edge = 0; edge < 30; edge++) {
                if (joins(edge, corner)) {
                    own |= x.roadAt(edge) == x.turn();
                    room &= x.buildingAt(ENDS[edge][0]) == Hexstead.NONE && x.buildingAt(ENDS[edge][1]) == Hexstead.NONE;
                }
            }
            if (own && room) {
                return corner;
            }
        }
        return from;
    }

    private int ownHouse() {
        int from = below(24);
        for (int i = 0; i < 24; i++) {
            if (x.buildingAt((from + i) % 24) == x.turn()) {
                return (from + i) % 24;
            }
        }
        return 0;
    }

    private int mostOf(int player) {
        int most = 0;
        for (int good = 1; good < 5; good++) {
            most = x.hand(player, good) > x.hand(player, most) ? good : most;
        }
        return most;
    }

    /** What is due from a player, of the goods that this player has the first of. */
    private int halfOf(int player) {
        if (player < 0 || player > 2) {
            return 0;
        }
        int left = x.due(player);
        int goods = 0;
        for (int good = 0; good < 5; good++) {
            int taken = Math.min(9, Math.min(left, x.hand(player, good)));
            goods += taken * power(good);
            left -= taken;
        }
        return goods;
    }

    private void rollAsTold(int one, int other) {
        boolean fits = !argumentWrong;
        int[] due = new int[15];
        for (int i = 0; i < 15 && fits; i++) {
            due[i] = x.hand(i / 5, i % 5) + x.wouldGet(i / 5, i % 5, one + other);
        }
        x.roll(one, other);
        for (int i = 0; i < 15 && fits; i++) {
            Check.same("roll bears what was told", x.hand(i / 5, i % 5), due[i]);
        }
    }

    private void lookAtGoods(String told) {
        for (int good = 0; good < 5; good++) {
            int sum = 0;
            for (int holder = 0; holder < 4; holder++) {
                sum += x.hand(holder, good);
                Check.same(told + " by moves", x.handByMoves(holder, good), x.hand(holder, good));
                Check.same(told + " below 0", Math.min(0, x.hand(holder, good)), 0);
            }
            Check.same(told + " goods are neither made nor lost", sum, 12);
        }
    }

    private void lookAtTrails(String told, int holderAhead) {
        int greatest = 0;
        for (int player = 0; player < 3; player++) {
            int length = longest(x, player);
            Check.same(told + " trail", x.trail(player), length);
            Check.same(told + " trail by sets", x.trailBySets(player), length);
            greatest = Math.max(greatest, length);
        }
        int havers = 0;
        int due = Hexstead.NONE;
        for (int player = 0; player < 3; player++) {
            if (x.trail(player) == greatest) {
                havers++;
                due = player;
            }
        }
        if (greatest < 5) {
            due = Hexstead.NONE;
        } else if (holderAhead != Hexstead.NONE && x.trail(holderAhead) == greatest) {
            due = holderAhead;
        } else if (havers > 1) {
            due = Hexstead.NONE;
        }
        Check.same(told + " holder", x.holder(false), due);
    }

    private void lookAtPoints(String told) {
        for (int player = 0; player < 3; player++) {
            int due = x.cards(player, Hexstead.POINT);
            int houses = 0;
            int cities = 0;
            for (int corner = 0; corner < 24; corner++) {
                houses += x.buildingAt(corner) == player ? 1 : 0;
                cities += x.buildingAt(corner) == 3 + player ? 1 : 0;
            }
            due += houses + 2 * cities;
            due += x.holder(false) == player ? 2 : 0;
            due += x.holder(true) == player ? 2 : 0;
            Check.same(told + " points", x.points(player), due);
            Check.same(told + " houses", Math.max(4, houses), 4);
            Check.same(told + " cities", Math.max(3, cities), 3);
        }
    }

    private static int longest(Hexstead x, int player) {
        int longest = 0;
        for (int corner = 0; corner < 24; corner++) {
            longest = Math.max(longest, longestFrom(x, player, corner, new boolean[30], true));
        }
        return longest;
    }

    private static int longestFrom(Hexstead x, int player, int corner, boolean[] gone, boolean begins) {
        int building = x.buildingAt(corner);
        if (!begins && building != Hexstead.NONE && building % 3 != player) {
            return 0;
        }
        int longest = 0;
        for (int edge = 0; edge < 30; edge++) {
            if (joins(edge, corner) && !gone[edge] && x.roadAt(edge) == player) {
                gone[edge] = true;
                int next = ENDS[edge][0] + ENDS[edge][1] - corner;
                longest = Math.max(longest, 1 + longestFrom(x, player, next, gone, false));
                gone[edge] = false;
            }
        }
        return longest;
    }
}
