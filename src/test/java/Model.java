import java.util.ArrayList;
import java.util.List;
import java.util.Map;
import java.util.TreeMap;

/**
 * The document once more, written apart from the class and for plainness alone: every unit of a good that moves is an
 * entry of one list, and hands are what that list leaves. ModelTest plays both side by side.
 */
final class Model {
    static final int LAY = 0, PLACE = 1, DEAL = 2, ROLL = 3, DISCARD = 4, ROB = 5, ROAD = 6, HOUSE = 7, CITY = 8,
            BUY = 9, KNIGHT = 10, ROADS = 11, PLENTY = 12, MONOPOLY = 13, SWAP = 14, OFFER = 15, COUNTER = 16,
            ACCEPT = 17, AGREE = 18, END = 19, CALLS = 20;
    private static final int[] ORDER_TO_PLACE = {0, 1, 2, 2, 1, 0};
    private static final int[] CARDS_IN_ORDER = {0, 4, 1, 0, 2, 3, 0, 4, 0, 1, 2, 0, 3, 0, 4};
    private static final int[] PRICE_OF_ROAD = {1, 1, 0, 0, 0}, PRICE_OF_HOUSE = {1, 1, 1, 1, 0};
    private static final int[] PRICE_OF_CITY = {0, 0, 0, 2, 3}, PRICE_OF_CARD = {0, 0, 1, 1, 1};

    private static final class Card {
        final int kind;
        final int player;
        final int turnNumber;
        boolean used = false;

        Card(int kind, int player, int turnNumber) {
            this.kind = kind;
            this.player = player;
            this.turnNumber = turnNumber;
        }
    }

    private final int[] goods = {5, 0, 1, 2, 3, 4, 1};
    private final int[] numbers = {7, 6, 5, 9, 4, 10, 8};
    private final Map<Integer, Integer> houses = new TreeMap<>();
    private final Map<Integer, Integer> cities = new TreeMap<>();
    private final Map<Integer, Integer> roads = new TreeMap<>();
    private final List<int[]> moves = new ArrayList<>();
    private final List<Card> bought = new ArrayList<>();
    private final Map<Integer, int[]> counters = new TreeMap<>();
    private final int[] due = new int[3];
    private int[] offered = null;
    int phase = 0;
    int turn = 0;
    int robber = 0;
    int trailHolder = -1;
    int armyHolder = -1;
    private int placed = 0;
    private int turnNumber = 0;
    private int cardUsedIn = -1;
    boolean rolled = false;

    // ---- the board

    static int[] ends(int edge) {
        if (edge <= 5) {
            return new int[] {edge, edge == 5 ? 0 : edge + 1};
        }
        if (edge <= 11) {
            return new int[] {edge - 6, 6 + 3 * (edge - 6)};
        }
        return new int[] {6 + edge - 12, edge == 29 ? 6 : 7 + edge - 12};
    }

    static int[] corners(int hex) {
        if (hex == 0) {
            return new int[] {0, 1, 2, 3, 4, 5};
        }
        int first = 6 + 3 * (hex - 1);
        return new int[] {hex - 1, hex == 6 ? 0 : hex, first, first + 1, first + 2, hex == 6 ? 6 : first + 3};
    }

    static boolean has(int[] row, int number) {
        for (int each : row) {
            if (each == number) {
                return true;
            }
        }
        return false;
    }

    int ownerAt(int corner) {
        return houses.getOrDefault(corner, cities.getOrDefault(corner, -1));
    }

    int buildingAt(int corner) {
        return cities.containsKey(corner) ? 3 + cities.get(corner) : houses.getOrDefault(corner, -1);
    }

    int roadAt(int edge) {
        return roads.getOrDefault(edge, -1);
    }

    private boolean roomAt(int corner) {
        boolean room = ownerAt(corner) < 0;
        for (int edge = 0; edge < 30; edge++) {
            int[] ends = ends(edge);
            if (has(ends, corner)) {
                room = room && ownerAt(ends[0] + ends[1] - corner) < 0;
            }
        }
        return room;
    }

    private boolean roadEndsAt(int player, int corner) {
        for (int edge : roads.keySet()) {
            if (roads.get(edge) == player && has(ends(edge), corner)) {
                return true;
            }
        }
        return false;
    }

    private boolean mayLie(int player, int edge) {
        if (roads.containsKey(edge) || count(roads, player) >= 8) {
            return false;
        }
        for (int corner : ends(edge)) {
            int owner = ownerAt(corner);
            if (owner == player || roadEndsAt(player, corner) && owner < 0) {
                return true;
            }
        }
        return false;
    }

    private static int count(Map<Integer, Integer> what, int player) {
        int count = 0;
        for (int each : what.values()) {
            count += each == player ? 1 : 0;
        }
        return count;
    }

    int roadsOf(int player) {
        return count(roads, player);
    }

    int housesOf(int player) {
        return count(houses, player);
    }

    int citiesOf(int player) {
        return count(cities, player);
    }

    boolean hasUsedACard() {
        return cardUsedIn == turnNumber;
    }

    int cardsLeft() {
        return 15 - bought.size();
    }

    // ---- what is so

    int hand(int holder, int good) {
        int count = holder == 3 ? 12 : 0;
        for (int[] move : moves) {
            if (move[2] == good) {
                count += (move[1] == holder ? 1 : 0) - (move[0] == holder ? 1 : 0);
            }
        }
        return count;
    }

    int total(int holder) {
        int total = holder == 3 ? 60 : 0;
        for (int[] move : moves) {
            total += (move[1] == holder ? 1 : 0) - (move[0] == holder ? 1 : 0);
        }
        return total;
    }

    int due(int player) {
        return due[player];
    }

    int points(int player) {
        return count(houses, player) + 2 * count(cities, player) + cards(player, 4)
                + (trailHolder == player ? 2 : 0) + (armyHolder == player ? 2 : 0);
    }

    int cards(int player, int kind) {
        int count = 0;
        for (Card card : bought) {
            count += card.player == player && card.kind == kind && !card.used ? 1 : 0;
        }
        return count;
    }

    int knights(int player) {
        int count = 0;
        for (Card card : bought) {
            count += card.player == player && card.kind == 0 && card.used ? 1 : 0;
        }
        return count;
    }

    int rate(int player, int good) {
        int rate = 4;
        for (int k = 0; k <= 5; k++) {
            if (ownerAt(7 + 3 * k) == player || ownerAt(8 + 3 * k) == player) {
                rate = Math.min(rate, k == 5 ? 3 : k == good ? 2 : 4);
            }
        }
        return rate;
    }

    private int[] shares(int good, int sum) {
        int[] share = new int[3];
        for (int hex = 0; hex < 7; hex++) {
            if (sum != 7 && numbers[hex] == sum && goods[hex] == good && hex != robber) {
                for (int corner : corners(hex)) {
                    if (ownerAt(corner) >= 0) {
                        share[ownerAt(corner)] += cities.containsKey(corner) ? 2 : 1;
                    }
                }
            }
        }
        return share;
    }

    /** However much the bank has. */
    int borne(int good, int sum) {
        int[] share = shares(good, sum);
        return share[0] + share[1] + share[2];
    }

    int wouldGet(int player, int good, int sum) {
        int[] share = shares(good, sum);
        int bank = hand(3, good);
        if (share[0] + share[1] + share[2] <= bank) {
            return share[player];
        }
        boolean alone = (share[0] > 0 ? 1 : 0) + (share[1] > 0 ? 1 : 0) + (share[2] > 0 ? 1 : 0) == 1;
        return alone && share[player] > 0 ? bank : 0;
    }

    int trail(int player) {
        int longest = 0;
        for (int corner = 0; corner < 24; corner++) {
            longest = Math.max(longest, trailFrom(player, corner, new ArrayList<>()));
        }
        return longest;
    }

    /** With one more road of the player whose turn it is; 0 if none can lie there. */
    int trailWith(int edge) {
        if (!mayLie(turn, edge)) {
            return 0;
        }
        roads.put(edge, turn);
        int length = trail(turn);
        roads.remove(edge);
        return length;
    }

    private int trailFrom(int player, int corner, List<Integer> gone) {
        boolean strange = ownerAt(corner) >= 0 && ownerAt(corner) != player;
        if (strange && !gone.isEmpty()) {
            return gone.size();
        }
        int longest = gone.size();
        for (int edge : roads.keySet()) {
            int[] ends = ends(edge);
            if (roads.get(edge) == player && has(ends, corner) && !gone.contains(edge)) {
                List<Integer> further = new ArrayList<>(gone);
                further.add(edge);
                longest = Math.max(longest, trailFrom(player, ends[0] + ends[1] - corner, further));
            }
        }
        return longest;
    }

    // ---- which exception is due: I, A or S, or null if the call has to be done

    private static String index(int number, int bound) {
        return number < 0 || number >= bound ? "I" : null;
    }

    private static String argument(boolean wrong) {
        return wrong ? "A" : null;
    }

    private static String state(boolean allowed) {
        return allowed ? null : "S";
    }

    private static String first(String... due) {
        for (String each : due) {
            if (each != null) {
                return each;
            }
        }
        return null;
    }

    private static boolean noGood(int good) {
        return good < 0 || good > 4;
    }

    private static boolean noGoods(int goods) {
        return goods < 0 || goods > 99999;
    }

    private static int[] digits(int goods) {
        return new int[] {goods % 10, goods / 10 % 10, goods / 100 % 10, goods / 1000 % 10, goods / 10000};
    }

    private static int size(int[] goods) {
        return goods[0] + goods[1] + goods[2] + goods[3] + goods[4];
    }

    private boolean has(int holder, int[] wanted) {
        for (int good = 0; good < 5; good++) {
            if (hand(holder, good) < wanted[good]) {
                return false;
            }
        }
        return true;
    }

    private boolean hasNumber(int holder, int wanted) {
        return has(holder, digits(wanted));
    }

    private boolean robbable(int player, int hex) {
        boolean there = false;
        for (int corner : corners(hex)) {
            there = there || ownerAt(corner) == player;
        }
        return there && player != turn && total(player) > 0;
    }

    private boolean robberMay(int hex, int victim) {
        if (hex == robber) {
            return false;
        }
        if (victim >= 0) {
            return robbable(victim, hex);
        }
        return !robbable(0, hex) && !robbable(1, hex) && !robbable(2, hex);
    }

    private Card usable(int kind) {
        for (Card card : bought) {
            if (card.player == turn && card.kind == kind && !card.used && card.turnNumber < turnNumber) {
                return cardUsedIn == turnNumber || phase != 1 && phase != 2 ? null : card;
            }
        }
        return null;
    }

    private boolean roadsMay(int one, int other) {
        if (!mayLie(turn, one)) {
            return false;
        }
        roads.put(one, turn);
        boolean may = other == -1 || mayLie(turn, other);
        roads.remove(one);
        return may;
    }

    String refusal(int call, int a, int b, int c) {
        switch (call) {
            case LAY:
                boolean fits = b == 5 && c == 7 || b >= 0 && b <= 4 && c >= 2 && c <= 12 && c != 7;
                return first(index(a, 7), argument(!fits), state(placed == 0));
            case PLACE:
                return first(index(a, 24), index(b, 30), state(phase == 0), allowed(call, a, b, c));
            case DEAL:
                return first(index(a, 3), argument(noGoods(b)), state(!rolled), allowed(call, a, b, c));
            case ROLL:
                return first(argument(a < 1 || a > 6 || b < 1 || b > 6), state(phase == 1));
            case DISCARD:
                return first(index(a, 3), argument(noGoods(b)), state(phase == 3), allowed(call, a, b, c));
            case ROB:
            case KNIGHT:
                return first(index(a, 7), b == -1 ? null : index(b, 3), argument(c < 0 || c > 999),
                        state(call == ROB ? phase == 4 : usable(0) != null), allowed(call, a, b, c));
            case ROADS:
                return first(index(a, 30), b == -1 ? null : index(b, 30), state(usable(1) != null),
                        allowed(call, a, b, c));
            case PLENTY:
                return first(argument(noGood(a) || noGood(b)), state(usable(2) != null), allowed(call, a, b, c));
            case MONOPOLY:
                return first(argument(noGood(a)), state(usable(3) != null));
            default:
                return refusalInAct(call, a, b, c);
        }
    }

    private String refusalInAct(int call, int a, int b, int c) {
        String wrong = null;
        if (call == ROAD) {
            wrong = index(a, 30);
        } else if (call == HOUSE || call == CITY) {
            wrong = index(a, 24);
        } else if (call == SWAP) {
            wrong = argument(noGood(a) || noGood(b) || a == b);
        } else if (call == OFFER) {
            wrong = argument(noGoods(a) || noGoods(b) || a == 0 || b == 0);
        } else if (call == COUNTER) {
            wrong = first(index(a, 3), argument(noGoods(b) || noGoods(c) || b == 0 || c == 0));
        } else if (call == ACCEPT || call == AGREE) {
            wrong = index(a, 3);
        }
        return first(wrong, state(phase == 2), wrong == null && phase == 2 ? allowed(call, a, b, c) : null);
    }

    /** Only asked for arguments that are in range. */
    private String allowed(int call, int a, int b, int c) {
        switch (call) {
            case PLACE:
                return first(index(a, 24), index(b, 30)) != null ? "S"
                        : state(roomAt(a) && has(ends(b), a) && !roads.containsKey(b));
            case DEAL:
                return state(hasNumber(3, b));
            case DISCARD:
                return index(a, 3) != null ? "S" : state(due[a] > 0 && size(digits(b)) == due[a] && hasNumber(a, b));
            case ROB:
            case KNIGHT:
                return index(a, 7) != null ? "S" : state(robberMay(a, b));
            case ROADS:
                return first(index(a, 30)) != null ? "S" : state(roadsMay(a, b));
            case PLENTY:
                return state(!noGood(a) && !noGood(b) && hand(3, a) > 0 && hand(3, b) > (a == b ? 1 : 0));
            case ROAD:
                return state(mayLie(turn, a) && has(turn, PRICE_OF_ROAD));
            case HOUSE:
                return state(count(houses, turn) < 4 && roomAt(a) && roadEndsAt(turn, a) && has(turn, PRICE_OF_HOUSE));
            case CITY:
                return state(count(cities, turn) < 3 && houses.getOrDefault(a, -1) == turn && has(turn, PRICE_OF_CITY));
            case BUY:
                return state(bought.size() < 15 && has(turn, PRICE_OF_CARD));
            case SWAP:
                return state(hand(turn, a) >= rate(turn, a) && hand(3, b) > 0);
            case OFFER:
                return state(hasNumber(turn, a));
            case COUNTER:
                return state(offered != null && a != turn && hasNumber(a, b));
            case ACCEPT:
                return state(offered != null && a != turn && hasNumber(turn, offered[0]) && hasNumber(a, offered[1]));
            case AGREE:
                return state(counters.containsKey(a) && hasNumber(a, counters.get(a)[0])
                        && hasNumber(turn, counters.get(a)[1]));
            default:
                return null;
        }
    }

    // ---- doing it; only asked for calls that are not refused

    private void move(int from, int to, int good, int many) {
        for (int i = 0; i < many; i++) {
            moves.add(new int[] {from, to, good});
        }
    }

    private void moveAll(int from, int to, int[] what) {
        for (int good = 0; good < 5; good++) {
            move(from, to, good, what[good]);
        }
    }

    private void lookAtTrails() {
        int[] length = {trail(0), trail(1), trail(2)};
        int greatest = Math.max(length[0], Math.max(length[1], length[2]));
        List<Integer> havers = new ArrayList<>();
        for (int player = 0; player < 3; player++) {
            if (length[player] == greatest) {
                havers.add(player);
            }
        }
        if (greatest < 5) {
            trailHolder = -1;
        } else if (!havers.contains(trailHolder)) {
            trailHolder = havers.size() == 1 ? havers.get(0) : -1;
        }
    }

    private void lookForWinner() {
        if (phase != 0 && points(turn) >= 8) {
            phase = 5;
        }
    }

    private void useCard(int kind) {
        usable(kind).used = true;
        cardUsedIn = turnNumber;
        if (kind == 0 && armyHolder == -1 && knights(turn) == 3) {
            armyHolder = turn;
        }
        if (kind == 0 && armyHolder != -1 && knights(turn) > knights(armyHolder)) {
            armyHolder = turn;
        }
    }

    private int steal(int hex, int victim, int draw) {
        robber = hex;
        if (victim == -1) {
            return -1;
        }
        List<Integer> row = new ArrayList<>();
        for (int good = 0; good < 5; good++) {
            for (int i = hand(victim, good); i > 0; i--) {
                row.add(good);
            }
        }
        int good = row.get(draw % row.size());
        move(victim, turn, good, 1);
        return good;
    }

    long apply(int call, int a, int b, int c) {
        long answer = change(call, a, b, c);
        if (call == ROAD || call == ROADS || call == HOUSE || call == CITY || call == PLACE) {
            lookAtTrails();
        }
        lookForWinner();
        if (call == ROAD || call == ROADS) {
            return trail(turn);
        }
        return call == HOUSE || call == CITY ? points(turn) : answer;
    }

    private long change(int call, int a, int b, int c) {
        switch (call) {
            case LAY:
                goods[a] = b;
                numbers[a] = c;
                return 0;
            case PLACE:
                return place(a, b);
            case DEAL:
                moveAll(3, a, digits(b));
                return total(a);
            case ROLL:
                return roll(a + b);
            case DISCARD:
                moveAll(a, 3, digits(b));
                due[a] = 0;
                phase = due[0] + due[1] + due[2] > 0 ? 3 : 4;
                return phase;
            case ROB:
                phase = 2;
                return steal(a, b, c);
            case ROAD:
                moveAll(turn, 3, PRICE_OF_ROAD);
                roads.put(a, turn);
                return 0;
            case HOUSE:
                moveAll(turn, 3, PRICE_OF_HOUSE);
                houses.put(a, turn);
                return 0;
            case CITY:
                moveAll(turn, 3, PRICE_OF_CITY);
                houses.remove(a);
                cities.put(a, turn);
                return 0;
            case BUY:
                moveAll(turn, 3, PRICE_OF_CARD);
                bought.add(new Card(CARDS_IN_ORDER[bought.size()], turn, turnNumber));
                return CARDS_IN_ORDER[bought.size() - 1];
            default:
                return changeByCardOrSwap(call, a, b, c);
        }
    }

    private long changeByCardOrSwap(int call, int a, int b, int c) {
        switch (call) {
            case KNIGHT:
                useCard(0);
                return steal(a, b, c);
            case ROADS:
                useCard(1);
                roads.put(a, turn);
                if (b != -1) {
                    roads.put(b, turn);
                }
                return 0;
            case PLENTY:
                useCard(2);
                move(3, turn, a, 1);
                move(3, turn, b, 1);
                return total(turn);
            case MONOPOLY:
                useCard(3);
                int others = 12 - hand(3, a) - hand(turn, a);
                for (int player = 0; player < 3; player++) {
                    move(player, turn, a, player == turn ? 0 : hand(player, a));
                }
                return others;
            case SWAP:
                move(turn, 3, a, rate(turn, a));
                move(3, turn, b, 1);
                return hand(turn, b);
            case OFFER:
                counters.clear();
                offered = new int[] {a, b};
                return 0;
            case COUNTER:
                counters.put(a, new int[] {b, c});
                return 0;
            case ACCEPT:
                return exchange(a, offered[1], offered[0], a);
            case AGREE:
                return exchange(a, counters.get(a)[0], counters.get(a)[1], turn);
            default:
                return endTurn();
        }
    }

    private long exchange(int player, int gives, int gets, int told) {
        moveAll(player, turn, digits(gives));
        moveAll(turn, player, digits(gets));
        offered = null;
        counters.clear();
        return total(told);
    }

    private long place(int corner, int edge) {
        houses.put(corner, turn);
        roads.put(edge, turn);
        for (int hex = 0; hex < 7 && placed >= 3; hex++) {
            if (has(corners(hex), corner) && goods[hex] != 5 && hand(3, goods[hex]) > 0) {
                move(3, turn, goods[hex], 1);
            }
        }
        placed++;
        turn = placed < 6 ? ORDER_TO_PLACE[placed] : 0;
        phase = placed < 6 ? 0 : 1;
        return turn;
    }

    private long roll(int sum) {
        rolled = true;
        phase = 2;
        if (sum == 7) {
            for (int player = 0; player < 3; player++) {
                due[player] = total(player) > 7 ? total(player) / 2 : 0;
            }
            phase = due[0] + due[1] + due[2] > 0 ? 3 : 4;
            return phase;
        }
        int[] borne = new int[15];
        for (int i = 0; i < 15; i++) {
            borne[i] = wouldGet(i / 5, i % 5, sum);
        }
        for (int i = 0; i < 15; i++) {
            move(3, i / 5, i % 5, borne[i]);
        }
        return phase;
    }

    private long endTurn() {
        offered = null;
        counters.clear();
        turnNumber++;
        turn = (turn + 1) % 3;
        phase = 1;
        return turn;
    }
}
