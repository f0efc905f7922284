import java.util.ArrayList;
import java.util.List;

/**
 * Plays the class and the Model side by side by a fixed row of numbers. Calls that fit the time are picked most often,
 * so that games are won in every way, armies are raised and the bank runs short; refused calls are among them.
 */
final class ModelTest {
    private static final int GAMES = 300, CALLS = 330, CROWDS = 1000;

    /** What has to happen in some game, or the games would not have looked at it. */
    private static final String[] HAPPENINGS = {
        "won by a road", "won by a house", "won by a city", "won by buying", "won by a KNIGHT", "won by ROADS",
        "army", "trail lost to nobody", "trail passed on", "trail above 5", "bank short for two", "bank short for one",
        "eight roads", "three cities", "four houses", "discard of three", "robbed", "no victim",
        "knight ahead of rolling", "a seven behind a card", "agreed", "accepted", "all 15 bought",
    };

    /** What the players of a game build and buy first. */
    private static final int[][] DEAR = {
        {Model.CITY, Model.HOUSE, Model.ROAD, Model.BUY}, {Model.BUY, Model.ROAD, Model.HOUSE},
        {Model.ROAD, Model.BUY, Model.HOUSE, Model.CITY}, {Model.HOUSE, Model.ROAD, Model.CITY, Model.BUY},
        {Model.BUY, Model.CITY, Model.HOUSE, Model.ROAD}, {Model.HOUSE, Model.CITY, Model.BUY, Model.ROAD},
    };

    private long seed;
    private Hexstead x;
    private Model m;
    private final int[] done = new int[Model.CALLS];
    private final int[] refused = new int[Model.CALLS];
    private final int[] happened = new int[HAPPENINGS.length];
    private boolean generous;
    private int lucky;
    private int[] dear;

    private ModelTest(long seed) {
        this.seed = seed;
    }

    public static void main(String[] args) {
        ModelTest play = new ModelTest(args.length > 0 ? Long.parseLong(args[0]) : 42);
        int games = args.length > 1 ? Integer.parseInt(args[1]) : GAMES;
        for (int game = 0; game < games; game++) {
            play.game();
        }
        for (int crowd = 0; crowd < CROWDS; crowd++) {
            play.crowd();
        }
        for (int call = 0; call < Model.CALLS; call++) {
            Check.same("call " + call + " was done at times", play.done[call] > 0 ? 1 : 0, 1);
            Check.same("call " + call + " was refused at times", play.refused[call] > 0 ? 1 : 0, 1);
        }
        for (int i = 0; i < HAPPENINGS.length; i++) {
            if (args.length > 0) {
                System.out.println(HAPPENINGS[i] + ": " + play.happened[i]);
            }
            Check.same(HAPPENINGS[i] + " at times", play.happened[i] > 0 ? 1 : 0, 1);
        }
        Check.end();
    }

    private int below(int bound) {
        seed = seed * 6364136223846793005L + 1442695040888963407L;
        return (int) ((seed >>> 33) % bound);
    }

    private boolean oneIn(int many) {
        return below(many) == 0;
    }

    private void game() {
        x = new Hexstead();
        m = new Model();
        generous = below(3) > 0;
        dear = DEAR[below(DEAR.length)];
        lucky = 2 + below(11);
        lucky = lucky == 7 ? 8 : lucky;
        if (oneIn(4)) {
            openRace();
        } else {
            layBoard();
        }
        int over = 0;
        for (int made = 0; made < CALLS && over < 25; made++) {
            step();
            over += m.phase == 5 ? 1 : 0;
        }
    }

    private void layBoard() {
        boolean scattered = oneIn(2);
        for (int hex = 0; hex < 7 && below(8) > 0; hex++) {
            int good = oneIn(3) ? below(6) : below(5);
            int own = scattered ? 2 + below(11) : lucky;
            make(Model.LAY, hex, good, good == 5 ? 7 : own == 7 ? 6 : own);
        }
    }

    /** Roads lie so that trails of 5 and 6 are near, and can be parted: as in Games.race, with some edges at random. */
    private void openRace() {
        int[] corners = {7, 4, 13, 17, 0, 9};
        int[] edges = {12, 3, 18, 22, 5, 15};
        int[] others = {13, 4, 19, 23, 0, 7};
        for (int i = 0; i < 6; i++) {
            make(Model.PLACE, corners[i], oneIn(4) ? others[i] : edges[i], 0);
        }
        for (int player = 0; player < 3; player++) {
            make(Model.DEAL, player, below(4) * 11000 + below(4) * 1100 + 44, 0);
        }
    }

    /** All build roads and houses among each other, so that many a trail ends at a building of somebody else. */
    private void crowd() {
        x = new Hexstead();
        m = new Model();
        for (int hex = 1; hex < 7; hex++) {
            make(Model.LAY, hex, Hexstead.DESERT, 7);
        }
        while (m.phase == Hexstead.PLACE) {
            tryCall(Model.PLACE);
        }
        for (int player = 0; player < 3; player++) {
            make(Model.DEAL, player, below(3) * 1100 + 44, 0);
        }
        for (int made = 0; made < 30 && m.phase != Hexstead.OVER; made++) {
            if (m.phase == Hexstead.ROLL) {
                make(Model.ROLL, 1, 1, 0);
            }
            if (!tryCall(oneIn(4) ? Model.HOUSE : Model.ROAD) || oneIn(4)) {
                make(Model.END, 0, 0, 0);
            }
        }
    }

    // ---- what to call

    private void step() {
        if (oneIn(12)) {
            anyCall(below(Model.CALLS), oneIn(3) ? 25 : 1000000);
            return;
        }
        switch (m.phase) {
            case 0:
                tryCall(oneIn(8) ? Model.DEAL : Model.PLACE);
                break;
            case 1:
                stepAheadOfRolling();
                break;
            case 2:
                stepInAct();
                break;
            case 3:
                tryCall(Model.DISCARD);
                break;
            case 4:
                tryCall(Model.ROB);
                break;
            default:
                anyCall(below(Model.CALLS), 1000000);
        }
    }

    private void stepAheadOfRolling() {
        if (!m.rolled && generous && below(7) > 0) {
            tryCall(Model.DEAL);
        } else if (oneIn(2)) {
            tryCall(Model.KNIGHT + below(4));
        } else {
            tryCall(Model.ROLL);
        }
    }

    private void stepInAct() {
        int pick = below(16);
        if (pick < 1) {
            tryCall(Model.END);
        } else if (pick < 4) {
            tryCall(Model.OFFER + below(4));
        } else if (pick < 6) {
            tryCall(Model.KNIGHT + below(4));
        } else if (pick < 10) {
            swapForTheRarest();
        } else {
            for (int i = 0; i < dear.length; i++) {
                if (below(5) > 0 && tryCall(dear[i])) {
                    return;
                }
            }
            tryCall(below(3) > 0 ? Model.END : Model.SWAP);
        }
    }

    /** Who swaps at random never has enough for a city. */
    private void swapForTheRarest() {
        int most = 0;
        int least = 0;
        for (int good = 1; good < 5; good++) {
            most = m.hand(m.turn, good) > m.hand(m.turn, most) ? good : most;
            least = m.hand(m.turn, good) <= m.hand(m.turn, least) ? good : least;
        }
        make(Model.SWAP, most, oneIn(4) ? below(5) : least, 0);
    }

    /** A call with arguments that fit, if some are found. */
    private boolean tryCall(int call) {
        boolean hopeless = call == Model.ROADS && m.cards(m.turn, Hexstead.ROADS) == 0
                || call == Model.ROAD && m.hand(m.turn, Hexstead.BRICK) * m.hand(m.turn, Hexstead.WOOD) == 0;
        for (int i = 0; i < 60 && !hopeless; i++) {
            int[] args = argumentsFor(call, 1000000);
            if (m.refusal(call, args[0], args[1], args[2]) == null) {
                make(call, args[0], args[1], args[2]);
                return true;
            }
        }
        return false;
    }

    private void anyCall(int call, int oneWrongIn) {
        int[] args = argumentsFor(call, oneWrongIn);
        make(call, args[0], args[1], args[2]);
    }

    private int near(int low, int high, int oneWrongIn) {
        if (oneIn(oneWrongIn)) {
            int[] off = {low - 1, high + 1, Integer.MIN_VALUE, Integer.MAX_VALUE, 7};
            return off[below(5)];
        }
        return low + below(high - low + 1);
    }

    private int side(int wrong) {
        int goods = 0;
        for (int good = 0, unit = 1; good < 5; good++, unit *= 10) {
            goods += oneIn(4) ? unit * (1 + below(2)) : 0;
        }
        return oneIn(wrong) ? near(0, 99999, 2) : goods;
    }

    private int dealt(int wrong) {
        int goods = 0;
        for (int good = 0, unit = 1; good < 5; good++, unit *= 10) {
            goods += unit * below(oneIn(3) ? 6 : 2);
        }
        return oneIn(wrong) ? near(0, 99999, 2) : goods;
    }

    private int discarded(int player, int wrong) {
        if (oneIn(wrong) || player < 0 || player > 2) {
            return near(0, 99999, 2);
        }
        int left = m.due(player);
        int goods = 0;
        int from = below(5);
        for (int i = 0; i < 5; i++) {
            int good = (from + i) % 5;
            int taken = Math.min(9, Math.min(left, m.hand(player, good)));
            left -= taken;
            goods += taken * (int) Math.round(Math.pow(10, good));
        }
        return oneIn(10) ? goods + 1 : goods;
    }

    private int[] argumentsFor(int call, int wrong) {
        int player = near(0, 2, wrong);
        switch (call) {
            case Model.LAY:
                return row(near(0, 6, wrong), near(0, 5, wrong), near(2, 12, wrong));
            case Model.PLACE:
                return placing(wrong);
            case Model.DEAL:
                return row(player, dealt(wrong), 0);
            case Model.ROLL:
                return oneIn(8) ? row(3, 4, 0) : oneIn(3) ? row(near(1, 6, wrong), near(1, 6, wrong), 0)
                        : row(lucky / 2, lucky - lucky / 2, 0);
            case Model.DISCARD:
                return row(player, discarded(player, wrong), 0);
            case Model.ROB:
            case Model.KNIGHT:
                return row(near(0, 6, wrong), near(-1, 2, wrong), near(0, 999, wrong));
            case Model.ROAD:
                return row(oneIn(3) ? near(0, 29, wrong) : lengtheningEdge(), 0, 0);
            case Model.HOUSE:
                return row(oneIn(2) ? near(0, 23, wrong) : partingCorner(), 0, 0);
            case Model.CITY:
                return row(near(0, 23, wrong), 0, 0);
            case Model.ROADS:
                return row(oneIn(3) ? near(0, 29, wrong) : lengtheningEdge(), oneIn(4) ? -1 : near(0, 29, wrong), 0);
            case Model.PLENTY:
            case Model.SWAP:
                return row(near(0, 4, wrong), near(0, 4, wrong), 0);
            case Model.MONOPOLY:
                return row(near(0, 4, wrong), 0, 0);
            case Model.OFFER:
                return row(side(wrong), side(wrong), 0);
            case Model.COUNTER:
                return row(player, side(wrong), side(wrong));
            default:
                return row(player, 0, 0);
        }
    }

    private int[] placing(int wrong) {
        int corner = near(0, 23, wrong);
        List<Integer> edges = new ArrayList<>();
        for (int edge = 0; edge < 30; edge++) {
            if (Model.has(Model.ends(edge), corner)) {
                edges.add(edge);
            }
        }
        boolean none = edges.isEmpty() || oneIn(8);
        return row(corner, none ? near(0, 29, wrong) : edges.get(below(edges.size())), 0);
    }

    /** Of the edges that can take a road, one that makes the longest trail. */
    private int lengtheningEdge() {
        int from = below(30);
        int best = from;
        int longest = 0;
        for (int i = 0; i < 30; i++) {
            int length = m.trailWith((from + i) % 30);
            if (length > longest) {
                longest = length;
                best = (from + i) % 30;
            }
        }
        return best;
    }

    /** A house there parts a trail of another player, or is as good as any. */
    private int partingCorner() {
        int from = below(24);
        for (int i = 0; i < 24; i++) {
            int corner = (from + i) % 24;
            int[] count = new int[3];
            for (int edge = 0; edge < 30; edge++) {
                if (m.roadAt(edge) >= 0 && Model.has(Model.ends(edge), corner)) {
                    count[m.roadAt(edge)]++;
                }
            }
            if (count[m.turn] == 1 && count[0] + count[1] + count[2] == 3 && count[(m.turn + 1) % 3] != 1) {
                return corner;
            }
        }
        return from;
    }

    private static int[] row(int a, int b, int c) {
        return new int[] {a, b, c};
    }

    // ---- calling both, and comparing

    private void make(int call, int a, int b, int c) {
        String told = call + "(" + a + ", " + b + ", " + c + ")";
        String refusal = m.refusal(call, a, b, c);
        String due = refusal == null ? "nothing" : refusal.equals("I") ? Check.INDEX.getName()
                : refusal.equals("A") ? Check.ARGUMENT.getName() : Check.STATE.getName();
        long[] answer = {0};
        String thrown = Check.thrownBy(() -> answer[0] = called(call, a, b, c));
        Check.same(told + " throws", thrown, due);
        if (refusal == null && thrown.equals("nothing")) {
            int[] ahead = {m.phase, m.turn, m.trailHolder, m.armyHolder};
            lookAhead(call, a, b, c);
            Check.same(told, answer[0], m.apply(call, a, b, c));
            done[call]++;
            lookBehind(call, b, ahead);
        } else {
            refused[call]++;
        }
        compare(told);
    }

    private long called(int call, int a, int b, int c) {
        switch (call) {
            case Model.LAY:
                x.layHex(a, b, c);
                return 0;
            case Model.PLACE:
                return x.place(a, b);
            case Model.DEAL:
                return x.deal(a, b);
            case Model.ROLL:
                return x.roll(a, b);
            case Model.DISCARD:
                return x.discard(a, b);
            case Model.ROB:
                return x.rob(a, b, c);
            case Model.ROAD:
                return x.road(a);
            case Model.HOUSE:
                return x.house(a);
            case Model.CITY:
                return x.city(a);
            case Model.BUY:
                return x.buy();
            default:
                return calledBehind(call, a, b, c);
        }
    }

    private long calledBehind(int call, int a, int b, int c) {
        switch (call) {
            case Model.KNIGHT:
                return x.knight(a, b, c);
            case Model.ROADS:
                return x.roads(a, b);
            case Model.PLENTY:
                return x.plenty(a, b);
            case Model.MONOPOLY:
                return x.monopoly(a);
            case Model.SWAP:
                return x.swap(a, b);
            case Model.OFFER:
                x.offer(a, b);
                return 0;
            case Model.COUNTER:
                x.counter(a, b, c);
                return 0;
            case Model.ACCEPT:
                return x.accept(a);
            case Model.AGREE:
                return x.agree(a);
            default:
                return x.endTurn();
        }
    }

    private void compare(String told) {
        Check.same(told + " phase", x.phase(), m.phase);
        Check.same(told + " turn", x.turn(), m.turn);
        Check.same(told + " robber", x.robber(), m.robber);
        Check.same(told + " trail's holder", x.holder(false), m.trailHolder);
        Check.same(told + " army's holder", x.holder(true), m.armyHolder);
        for (int holder = 0; holder < 4; holder++) {
            for (int good = 0; good < 5; good++) {
                int due = m.hand(holder, good);
                Check.same(told + " hand", x.hand(holder, good), due);
                Check.same(told + " hand by moves", x.handByMoves(holder, good), due);
            }
        }
        for (int player = 0; player < 3; player++) {
            comparePlayer(told, player);
        }
        for (int corner = 0; corner < 24; corner++) {
            Check.same(told + " building", x.buildingAt(corner), m.buildingAt(corner));
        }
        for (int edge = 0; edge < 30; edge++) {
            Check.same(told + " road", x.roadAt(edge), m.roadAt(edge));
        }
    }

    private void comparePlayer(String told, int player) {
        int trail = m.trail(player);
        Check.same(told + " trail", x.trail(player), trail);
        Check.same(told + " trail by sets", x.trailBySets(player), trail);
        Check.same(told + " due", x.due(player), m.due(player));
        Check.same(told + " points", x.points(player), m.points(player));
        Check.same(told + " knights", x.knights(player), m.knights(player));
        for (int kind = 0; kind < 5; kind++) {
            Check.same(told + " cards", x.cards(player, kind), m.cards(player, kind));
            Check.same(told + " rate", x.rate(player, kind), m.rate(player, kind));
        }
        int good = below(5);
        for (int sum = 2; sum <= 12; sum++) {
            Check.same(told + " would get", x.wouldGet(player, good, sum), m.wouldGet(player, good, sum));
        }
    }

    // ---- what has happened

    private void note(String what, boolean so) {
        for (int i = 0; i < HAPPENINGS.length; i++) {
            if (so && HAPPENINGS[i].equals(what)) {
                happened[i]++;
            }
        }
    }

    private void lookAhead(int call, int a, int b, int c) {
        note("agreed", call == Model.AGREE);
        note("accepted", call == Model.ACCEPT);
        note("no victim", call == Model.ROB && b == -1);
        note("robbed", call == Model.ROB && b != -1);
        note("knight ahead of rolling", call == Model.KNIGHT && m.phase == 1);
        note("discard of three", call == Model.DISCARD && m.due(0) > 0 && m.due(1) > 0 && m.due(2) > 0);
        if (call != Model.ROLL) {
            return;
        }
        note("a seven behind a card", a + b == 7 && m.hasUsedACard());
        for (int good = 0; good < 5; good++) {
            int bank = m.hand(3, good);
            int got = m.wouldGet(0, good, a + b) + m.wouldGet(1, good, a + b) + m.wouldGet(2, good, a + b);
            boolean isShort = bank > 0 && m.borne(good, a + b) > bank;
            note("bank short for two", isShort && got == 0);
            note("bank short for one", isShort && got == bank);
        }
    }

    private void lookBehind(int call, int b, int[] ahead) {
        boolean won = ahead[0] != 5 && m.phase == 5;
        note("won by a road", won && call == Model.ROAD);
        note("won by a house", won && call == Model.HOUSE);
        note("won by a city", won && call == Model.CITY);
        note("won by buying", won && call == Model.BUY);
        note("won by a KNIGHT", won && call == Model.KNIGHT);
        note("won by ROADS", won && call == Model.ROADS);
        for (int player = 0; player < 3; player++) {
            note("trail above 5", m.trail(player) > 5);
            note("eight roads", call == Model.ROAD && m.roadsOf(player) == 8);
            note("three cities", call == Model.CITY && m.citiesOf(player) == 3);
            note("four houses", call == Model.HOUSE && m.housesOf(player) == 4);
        }
        note("army", ahead[3] == -1 && m.armyHolder != -1);
        note("trail lost to nobody", ahead[2] != -1 && m.trailHolder == -1);
        note("trail passed on", ahead[2] != -1 && m.trailHolder != -1 && ahead[2] != m.trailHolder);
        note("all 15 bought", call == Model.BUY && m.cardsLeft() == 0);
    }
}
