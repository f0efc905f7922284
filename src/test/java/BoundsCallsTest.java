import java.util.ArrayList;
import java.util.List;

/**
 * The paragraph on exceptions: each call at each time of the game, with arguments that fit but for the time, and each
 * wrong argument at each time, alone and together with others.
 */
final class BoundsCallsTest {
    private static final int FAR = Integer.MAX_VALUE, LOW = Integer.MIN_VALUE;

    /** The times, each with the calls that are allowed then. */
    private static final String[][] TIMES = {
        {"new", "layHex place deal"},
        {"placing", "place deal"},
        {"nobody has rolled", "deal roll"},
        {"ahead of rolling", "roll knight roads plenty monopoly"},
        {"discards are due", "discard"},
        {"the robber is due", "rob"},
        {"behind rolling", "road house city buy knight roads plenty monopoly swap offer counter accept agree endTurn"},
        {"over", ""},
    };

    private BoundsCallsTest() {
    }

    public static void main(String[] args) {
        times();
        for (int time = 0; time < TIMES.length; time++) {
            for (String call : callNames()) {
                inItsTime(time, call);
            }
            wrongArguments(at(time), time);
            wrongQuestions(time);
        }
        Check.end();
    }

    // ---- the times

    private static Hexstead at(int time) {
        if (time == 0) {
            return new Hexstead();
        }
        Hexstead x = Games.deserts();
        x.place(0, 6);
        x.place(2, 8);
        x.place(4, 10);
        x.place(16, 21);
        x.place(13, 18);
        if (time > 1) {
            x.place(7, 12);
        }
        x.deal(0, 99999);
        x.deal(0, 33322);
        x.deal(1, 10);
        x.deal(2, 1);
        if (time > 2) {
            goOn(x, time);
        }
        return x;
    }

    /** 0 has a card of each kind from an earlier turn, the goods for everything, and places to build. */
    private static void goOn(Hexstead x, int time) {
        x.roll(1, 1);
        for (int i = 0; i < 6; i++) {
            x.buy();
        }
        int[] edges = {13, 14, 15, 29};
        for (int edge : edges) {
            x.road(edge);
        }
        x.endTurn();
        Games.pass(x);
        Games.pass(x);
        if (time == 4 || time == 5) {
            x.roll(3, 4);
        }
        if (time == 5) {
            x.discard(0, 23344);
        }
        if (time >= 6) {
            x.roll(1, 1);
            x.offer(1, 10);
            x.counter(1, 10, 1);
        }
        if (time == 7) {
            win(x);
        }
    }

    /** 0 has two cities and a house then, and still all the cards, an offer, and the goods and places for more. */
    private static void win(Hexstead x) {
        x.swap(Hexstead.BRICK, Hexstead.ORE);
        x.swap(Hexstead.BRICK, Hexstead.ORE);
        x.swap(Hexstead.WOOD, Hexstead.ORE);
        x.swap(Hexstead.WOOL, Hexstead.GRAIN);
        x.city(0);
        x.city(7);
        x.house(9);
    }

    private static void times() {
        int[] due = {Hexstead.PLACE, Hexstead.PLACE, Hexstead.ROLL, Hexstead.ROLL, Hexstead.DISCARD, Hexstead.ROB,
            Hexstead.ACT, Hexstead.OVER};
        for (int time = 0; time < due.length; time++) {
            Check.same("22: " + TIMES[time][0], at(time).phase(), due[time]);
            Check.same("23: " + TIMES[time][0], at(time).turn(), 0);
        }
        Hexstead x = at(7);
        Check.same("24: goods for a road, a house, a city, a card, a swap", Games.goods(x, 0), 32122);
        Check.same("27: just 8", x.points(0), 8);
    }

    private static List<String> callNames() {
        List<String> names = new ArrayList<>();
        names.add("layHex");
        for (String[] time : TIMES) {
            for (String name : time[1].split(" ")) {
                if (!name.isEmpty() && !names.contains(name)) {
                    names.add(name);
                }
            }
        }
        return names;
    }

    private static Check.Call fitting(Hexstead x, String name) {
        int next = x.roadAt(29) == 0 ? 28 : x.roadAt(12) == 0 ? 29 : 0;
        switch (name) {
            case "layHex":
                return () -> x.layHex(1, Hexstead.ORE, 2);
            case "place":
                return () -> x.place(7, 12);
            case "deal":
                return () -> x.deal(0, 0);
            case "roll":
                return () -> x.roll(1, 1);
            case "discard":
                return () -> x.discard(0, x.due(0) > 0 ? 23344 : 0);
            case "rob":
                return () -> x.rob(2, 1, 0);
            case "road":
                return () -> x.road(next);
            case "house":
                return () -> x.house(23);
            case "city":
                return () -> x.city(x.buildingAt(0) == 0 ? 0 : 9);
            case "buy":
                return x::buy;
            default:
                return fittingBehind(x, name, next);
        }
    }

    private static Check.Call fittingBehind(Hexstead x, String name, int next) {
        switch (name) {
            case "knight":
                return () -> x.knight(2, 1, 0);
            case "roads":
                return () -> x.roads(next, next == 28 ? 16 : Hexstead.NONE);
            case "plenty":
                return () -> x.plenty(Hexstead.WOOL, Hexstead.GRAIN);
            case "monopoly":
                return () -> x.monopoly(Hexstead.WOOD);
            case "swap":
                return () -> x.swap(Hexstead.BRICK, Hexstead.WOOL);
            case "offer":
                return () -> x.offer(1, 10);
            case "counter":
                return () -> x.counter(2, 1, 10);
            case "accept":
                return () -> x.accept(1);
            case "agree":
                return () -> x.agree(1);
            case "endTurn":
                return x::endTurn;
            default:
                throw new IllegalArgumentException(name);
        }
    }

    private static void inItsTime(int time, String name) {
        Hexstead x = at(time);
        String told = name + ", " + TIMES[time][0];
        if ((" " + TIMES[time][1] + " ").contains(" " + name + " ")) {
            Check.same(told, Check.thrownBy(fitting(x, name)), "nothing");
            // Offers and used cards cannot be asked for: that refused calls left them alone is seen by what goes on.
            Hexstead y = at(time);
            wrongArguments(y, time);
            Check.same(told + ", behind refused calls", Check.thrownBy(fitting(y, name)), "nothing");
        } else {
            Check.refused(told, x, Check.STATE, fitting(x, name));
        }
    }

    // ---- wrong arguments

    private static final int[] NO_PLAYERS = {-1, 3, 4, LOW, FAR};
    private static final int[] NO_VICTIMS = {-2, 3, LOW, FAR};
    private static final int[] NO_HEXES = {-1, 7, LOW, FAR};
    private static final int[] NO_CORNERS = {-1, 24, LOW, FAR};
    private static final int[] NO_EDGES = {-1, 30, LOW, FAR};
    private static final int[] NO_OTHER_EDGES = {-2, 30, LOW, FAR};
    private static final int[] NO_GOODS_OF_ONE_KIND = {-1, 5, LOW, FAR};
    private static final int[] NO_NUMBERS_OF_GOODS = {-1, 100000, LOW, FAR};
    private static final int[] NO_SIDES = {0, -1, 100000, LOW, FAR};
    private static final int[] NO_DICE = {0, 7, -1, LOW, FAR};
    private static final int[] NO_DRAWS = {-1, 1000, LOW, FAR};

    private static void wrongArguments(Hexstead x, int time) {
        String when = ", " + TIMES[time][0];
        wrongPlaces(x, when);
        wrongPlayers(x, when);
        wrongRobberies(x, when);
        wrongGoods(x, when);
        for (int die : NO_DICE) {
            Check.refused("5: one " + die + when, x, Check.ARGUMENT, () -> x.roll(die, 1));
            Check.refused("5: other " + die + when, x, Check.ARGUMENT, () -> x.roll(6, die));
        }
    }

    private static void wrongPlaces(Hexstead x, String when) {
        for (int hex : NO_HEXES) {
            Check.refused("2: hex " + hex + when, x, Check.INDEX, () -> x.layHex(hex, 0, 6));
            Check.refused("2: hex " + hex + ", no good" + when, x, Check.INDEX, () -> x.layHex(hex, 6, 6));
            Check.refused("2: hex " + hex + ", no number" + when, x, Check.INDEX, () -> x.layHex(hex, 0, 7));
        }
        for (int corner : NO_CORNERS) {
            Check.refused("3: corner " + corner + when, x, Check.INDEX, () -> x.place(corner, 29));
            Check.refused("3: corner " + corner + ", no edge" + when, x, Check.INDEX, () -> x.place(corner, 30));
            Check.refused("9: corner " + corner + when, x, Check.INDEX, () -> x.house(corner));
            Check.refused("10: corner " + corner + when, x, Check.INDEX, () -> x.city(corner));
        }
        for (int edge : NO_EDGES) {
            Check.refused("3: edge " + edge + when, x, Check.INDEX, () -> x.place(23, edge));
            Check.refused("8: edge " + edge + when, x, Check.INDEX, () -> x.road(edge));
            Check.refused("13: one " + edge + when, x, Check.INDEX, () -> x.roads(edge, 28));
            Check.refused("13: one " + edge + ", NONE" + when, x, Check.INDEX, () -> x.roads(edge, -1));
        }
        for (int edge : NO_OTHER_EDGES) {
            Check.refused("13: other " + edge + when, x, Check.INDEX, () -> x.roads(28, edge));
        }
    }

    private static void wrongPlayers(Hexstead x, String when) {
        for (int player : NO_PLAYERS) {
            String told = "player " + player + when;
            Check.refused("4: " + told, x, Check.INDEX, () -> x.deal(player, 0));
            Check.refused("4: no goods, " + told, x, Check.INDEX, () -> x.deal(player, 100000));
            Check.refused("6: " + told, x, Check.INDEX, () -> x.discard(player, 1));
            Check.refused("6: no goods, " + told, x, Check.INDEX, () -> x.discard(player, -1));
            Check.refused("18: " + told, x, Check.INDEX, () -> x.counter(player, 1, 1));
            Check.refused("18: no give, " + told, x, Check.INDEX, () -> x.counter(player, 0, 1));
            Check.refused("18: no want, " + told, x, Check.INDEX, () -> x.counter(player, 1, 0));
            Check.refused("19: " + told, x, Check.INDEX, () -> x.accept(player));
            Check.refused("20: " + told, x, Check.INDEX, () -> x.agree(player));
        }
    }

    private static void wrongRobberies(Hexstead x, String when) {
        for (int hex : NO_HEXES) {
            Check.refused("7: hex " + hex + when, x, Check.INDEX, () -> x.rob(hex, 1, 0));
            Check.refused("7: hex " + hex + ", no draw" + when, x, Check.INDEX, () -> x.rob(hex, -1, 1000));
            Check.refused("12: hex " + hex + when, x, Check.INDEX, () -> x.knight(hex, -1, 0));
            Check.refused("12: hex " + hex + ", no draw" + when, x, Check.INDEX, () -> x.knight(hex, 1, -1));
        }
        for (int victim : NO_VICTIMS) {
            Check.refused("7: victim " + victim + when, x, Check.INDEX, () -> x.rob(2, victim, 0));
            Check.refused("7: victim " + victim + ", no draw" + when, x, Check.INDEX, () -> x.rob(2, victim, -1));
            Check.refused("12: victim " + victim + when, x, Check.INDEX, () -> x.knight(2, victim, 999));
            Check.refused("12: victim " + victim + ", no draw" + when, x, Check.INDEX, () -> x.knight(2, victim, 1000));
        }
        for (int draw : NO_DRAWS) {
            Check.refused("7: draw " + draw + when, x, Check.ARGUMENT, () -> x.rob(2, 1, draw));
            Check.refused("7: draw " + draw + ", no victim" + when, x, Check.ARGUMENT, () -> x.rob(0, -1, draw));
            Check.refused("12: draw " + draw + when, x, Check.ARGUMENT, () -> x.knight(2, 1, draw));
            Check.refused("12: draw " + draw + ", no victim" + when, x, Check.ARGUMENT, () -> x.knight(0, -1, draw));
        }
    }

    private static void wrongGoods(Hexstead x, String when) {
        for (int good : NO_GOODS_OF_ONE_KIND) {
            Check.refused("14: one " + good + when, x, Check.ARGUMENT, () -> x.plenty(good, 4));
            Check.refused("14: other " + good + when, x, Check.ARGUMENT, () -> x.plenty(0, good));
            Check.refused("15: good " + good + when, x, Check.ARGUMENT, () -> x.monopoly(good));
            Check.refused("16: give " + good + when, x, Check.ARGUMENT, () -> x.swap(good, 4));
            Check.refused("16: want " + good + when, x, Check.ARGUMENT, () -> x.swap(0, good));
        }
        for (int good = 0; good < 5; good++) {
            int same = good;
            Check.refused("16: twice " + good + when, x, Check.ARGUMENT, () -> x.swap(same, same));
        }
        for (int goods : NO_NUMBERS_OF_GOODS) {
            Check.refused("4: goods " + goods + when, x, Check.ARGUMENT, () -> x.deal(2, goods));
            Check.refused("6: goods " + goods + when, x, Check.ARGUMENT, () -> x.discard(0, goods));
        }
        for (int goods : NO_SIDES) {
            Check.refused("17: give " + goods + when, x, Check.ARGUMENT, () -> x.offer(goods, 1));
            Check.refused("17: want " + goods + when, x, Check.ARGUMENT, () -> x.offer(1, goods));
            Check.refused("18: give " + goods + when, x, Check.ARGUMENT, () -> x.counter(1, goods, 1));
            Check.refused("18: want " + goods + when, x, Check.ARGUMENT, () -> x.counter(0, 10, goods));
        }
        int[][] noHexes = {{-1, 6}, {6, 6}, {LOW, 6}, {FAR, 7}, {0, 1}, {4, 13}, {0, 7}, {4, 7}, {2, -1}, {2, 0},
            {2, LOW}, {2, FAR}, {5, 6}, {5, 8}, {5, 2}, {5, 12}, {5, 0}, {5, -7}, {6, 7}, {-1, 7}};
        for (int[] row : noHexes) {
            Check.refused("2: good " + row[0] + ", number " + row[1] + when, x, Check.ARGUMENT,
                    () -> x.layHex(6, row[0], row[1]));
        }
    }

    private static void wrongQuestions(int time) {
        Hexstead x = at(time);
        String when = ", " + TIMES[time][0];
        for (int player : NO_PLAYERS) {
            String told = "player " + player + when;
            if (player != 3) {
                Check.refused("24: " + told, x, Check.INDEX, () -> x.hand(player, 0));
                Check.refused("24: no good, " + told, x, Check.INDEX, () -> x.hand(player, 5));
                Check.refused("25: " + told, x, Check.INDEX, () -> x.handByMoves(player, 4));
                Check.refused("25: no good, " + told, x, Check.INDEX, () -> x.handByMoves(player, -1));
            }
            Check.refused("26: " + told, x, Check.INDEX, () -> x.due(player));
            Check.refused("27: " + told, x, Check.INDEX, () -> x.points(player));
            Check.refused("28: " + told, x, Check.INDEX, () -> x.trail(player));
            Check.refused("29: " + told, x, Check.INDEX, () -> x.trailBySets(player));
            Check.refused("31: " + told, x, Check.INDEX, () -> x.knights(player));
            Check.refused("32: " + told, x, Check.INDEX, () -> x.cards(player, 0));
            Check.refused("32: no kind, " + told, x, Check.INDEX, () -> x.cards(player, 5));
            Check.refused("36: " + told, x, Check.INDEX, () -> x.rate(player, 0));
            Check.refused("36: no good, " + told, x, Check.INDEX, () -> x.rate(player, -1));
            Check.refused("37: " + told, x, Check.INDEX, () -> x.wouldGet(player, 0, 2));
            Check.refused("37: no good, " + told, x, Check.INDEX, () -> x.wouldGet(player, 5, 2));
            Check.refused("37: no sum, " + told, x, Check.INDEX, () -> x.wouldGet(player, 0, 13));
        }
        for (int good : NO_GOODS_OF_ONE_KIND) {
            String told = "good " + good + when;
            Check.refused("24: " + told, x, Check.ARGUMENT, () -> x.hand(0, good));
            Check.refused("24: of the bank, " + told, x, Check.ARGUMENT, () -> x.hand(3, good));
            Check.refused("25: " + told, x, Check.ARGUMENT, () -> x.handByMoves(2, good));
            Check.refused("25: of the bank, " + told, x, Check.ARGUMENT, () -> x.handByMoves(3, good));
            Check.refused("32: as a kind, " + told, x, Check.ARGUMENT, () -> x.cards(0, good));
            Check.refused("36: " + told, x, Check.ARGUMENT, () -> x.rate(2, good));
            Check.refused("37: " + told, x, Check.ARGUMENT, () -> x.wouldGet(0, good, 12));
        }
        int[] noSums = {1, 13, 0, -1, -6, LOW, FAR};
        for (int sum : noSums) {
            Check.refused("37: sum " + sum + when, x, Check.ARGUMENT, () -> x.wouldGet(2, 4, sum));
        }
        for (int corner : NO_CORNERS) {
            Check.refused("33: corner " + corner + when, x, Check.INDEX, () -> x.buildingAt(corner));
        }
        for (int edge : NO_EDGES) {
            Check.refused("34: edge " + edge + when, x, Check.INDEX, () -> x.roadAt(edge));
        }
    }
}
