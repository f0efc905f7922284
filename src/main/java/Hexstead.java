/** A settling game on seven hexagons for three players; ../shared/DOC.md tells what each call promises. */
public final class Hexstead {
    public static final int NONE = -1;
    public static final int BRICK = 0, WOOD = 1, WOOL = 2, GRAIN = 3, ORE = 4, DESERT = 5;
    public static final int KNIGHT = 0, ROADS = 1, PLENTY = 2, MONOPOLY = 3, POINT = 4;
    public static final int PLACE = 0, ROLL = 1, ACT = 2, DISCARD = 3, ROB = 4, OVER = 5;

    private static final int PLAYERS = 3, BANK = 3, HOLDERS = 4, GOODS = 5, KINDS = 5;
    private static final int HEXES = 7, HEX_CORNERS = 6, CORNERS = 24, EDGES = 30;
    private static final int PLACINGS = 6;
    private static final int MOST_ROADS = 8, MOST_HOUSES = 4, MOST_CITIES = 3;
    private static final int MOST_GOODS = 99999, MOST_DRAW = 999, MOST_KEPT_ON_SEVEN = 7;
    private static final int LEAST_TRAIL = 5, LEAST_ARMY = 3, POINTS_TO_WIN = 8;
    // Prices are numbers of goods as the document writes them: BRICK is the last digit.
    private static final int ROAD_PRICE = 11, HOUSE_PRICE = 1111, CITY_PRICE = 32000, CARD_PRICE = 11100;

    private final Land land = new Land();
    private final Stock stock = new Stock();
    private final Trails trails = new Trails();
    private final Cards cards = new Cards();
    private final Bargain bargain = new Bargain();
    private final int[] dues = new int[PLAYERS];
    private final int[] grants = new int[PLAYERS];
    private int phase = PLACE;
    private int turn = 0;
    private int placings = 0;
    private boolean rolled = false;
    private int trailHolder = NONE;

    public Hexstead() {
    }

    public void layHex(int hex, int good, int number)
            throws IndexOutOfBoundsException, IllegalArgumentException, IllegalStateException {
        requireHex(hex);
        if (good < BRICK || good > DESERT) {
            throw new IllegalArgumentException("no such good for a hexagon");
        }
        if (number < 2 || number > 12 || (number == 7) != (good == DESERT)) {
            throw new IllegalArgumentException("no such number for this good");
        }
        requireSo(placings == 0);
        land.changeHex(hex, good, number);
    }

    public int place(int corner, int edge) throws IndexOutOfBoundsException, IllegalStateException {
        requireCorner(corner);
        requireEdge(edge);
        requirePhase(PLACE);
        requireSo(land.canTakeHouse(corner));
        requireSo(Land.isEnd(edge, corner));
        requireSo(land.roadOwner(edge) == NONE);
        land.putBuilding(corner, turn);
        land.putRoad(edge, turn);
        if (placings >= PLAYERS) {
            gainFromNewHouse(corner);
        }
        lookAtLand();
        placings++;
        goOnPlacing();
        return turn;
    }

    public int deal(int player, int goods)
            throws IndexOutOfBoundsException, IllegalArgumentException, IllegalStateException {
        requirePlayer(player);
        requireGoods(goods);
        requireSo(!rolled);
        requireHas(BANK, goods);
        stock.moveAll(BANK, player, goods);
        return stock.total(player);
    }

    public int roll(int one, int other) throws IllegalArgumentException, IllegalStateException {
        if (one < 1 || one > 6 || other < 1 || other > 6) {
            throw new IllegalArgumentException("a die shows 1 to 6");
        }
        requirePhase(ROLL);
        rolled = true;
        if (one + other == 7) {
            demandDiscards();
        } else {
            yieldAll(one + other);
            phase = ACT;
        }
        return phase;
    }

    public int discard(int player, int goods)
            throws IndexOutOfBoundsException, IllegalArgumentException, IllegalStateException {
        requirePlayer(player);
        requireGoods(goods);
        int owed = dueFrom(player);
        requireSo(owed > 0);
        requireSo(Stock.size(goods) == owed);
        requireHas(player, goods);
        stock.moveAll(player, BANK, goods);
        setDue(player, 0);
        phase = isAnyDue() ? DISCARD : ROB;
        return phase;
    }

    public int rob(int hex, int victim, int draw)
            throws IndexOutOfBoundsException, IllegalArgumentException, IllegalStateException {
        requireRobbery(hex, victim, draw);
        requirePhase(ROB);
        requireRobberMay(hex, victim);
        phase = ACT;
        return moveRobber(hex, victim, draw);
    }

    // ---- building

    public int road(int edge) throws IndexOutOfBoundsException, IllegalStateException {
        requireEdge(edge);
        requirePhase(ACT);
        requireSo(canBuildRoad(edge));
        requireHas(turn, ROAD_PRICE);
        stock.moveAll(turn, BANK, ROAD_PRICE);
        land.putRoad(edge, turn);
        lookAtLand();
        return trails.bySearch(land, turn);
    }

    public int house(int corner) throws IndexOutOfBoundsException, IllegalStateException {
        requireCorner(corner);
        requirePhase(ACT);
        requireSo(land.countBuildings(turn) < MOST_HOUSES);
        requireSo(land.canTakeHouse(corner));
        requireSo(land.hasRoadAt(turn, corner));
        requireHas(turn, HOUSE_PRICE);
        stock.moveAll(turn, BANK, HOUSE_PRICE);
        land.putBuilding(corner, turn);
        lookAtLand();
        return pointsOf(turn);
    }

    public int city(int corner) throws IndexOutOfBoundsException, IllegalStateException {
        requireCorner(corner);
        requirePhase(ACT);
        requireSo(land.countBuildings(PLAYERS + turn) < MOST_CITIES);
        requireSo(land.building(corner) == turn);
        requireHas(turn, CITY_PRICE);
        stock.moveAll(turn, BANK, CITY_PRICE);
        land.putBuilding(corner, PLAYERS + turn);
        lookAtLand();
        return pointsOf(turn);
    }

    // ---- cards

    public int buy() throws IllegalStateException {
        requirePhase(ACT);
        requireSo(cards.areLeft());
        requireHas(turn, CARD_PRICE);
        stock.moveAll(turn, BANK, CARD_PRICE);
        int kind = cards.give(turn);
        endIfWon();
        return kind;
    }

    public int knight(int hex, int victim, int draw)
            throws IndexOutOfBoundsException, IllegalArgumentException, IllegalStateException {
        requireRobbery(hex, victim, draw);
        requireUsable(KNIGHT);
        requireRobberMay(hex, victim);
        cards.use(turn, KNIGHT);
        int stolen = moveRobber(hex, victim, draw);
        endIfWon();
        return stolen;
    }

    public int roads(int one, int other) throws IndexOutOfBoundsException, IllegalStateException {
        requireEdge(one);
        if (other != NONE) {
            requireEdge(other);
        }
        requireUsable(ROADS);
        requireSo(canBuildRoad(one));
        land.putRoad(one, turn);
        if (other != NONE) {
            if (!canBuildRoad(other)) {
                // The other may need the one, so the one lies already: a refused call takes it back.
                land.putRoad(one, NONE);
                throw new IllegalStateException("the other road cannot be built");
            }
            land.putRoad(other, turn);
        }
        cards.use(turn, ROADS);
        lookAtLand();
        return trails.bySearch(land, turn);
    }

    public int plenty(int one, int other) throws IllegalArgumentException, IllegalStateException {
        requireGood(one);
        requireGood(other);
        requireUsable(PLENTY);
        int wanted = Stock.single(one) + Stock.single(other);
        requireHas(BANK, wanted);
        cards.use(turn, PLENTY);
        stock.moveAll(BANK, turn, wanted);
        return stock.total(turn);
    }

    public int monopoly(int good) throws IllegalArgumentException, IllegalStateException {
        requireGood(good);
        requireUsable(MONOPOLY);
        cards.use(turn, MONOPOLY);
        int given = 0;
        for (int player = 0; player < PLAYERS; player++) {
            if (player != turn) {
                int all = stock.count(player, good);
                stock.move(player, turn, good, all);
                given += all;
            }
        }
        return given;
    }

    // ---- swapping

    public int swap(int give, int want) throws IllegalArgumentException, IllegalStateException {
        requireGood(give);
        requireGood(want);
        if (give == want) {
            throw new IllegalArgumentException("both goods are the same");
        }
        requirePhase(ACT);
        int price = rateOf(turn, give);
        requireSo(stock.count(turn, give) >= price);
        requireSo(stock.count(BANK, want) >= 1);
        stock.move(turn, BANK, give, price);
        stock.move(BANK, turn, want, 1);
        return stock.count(turn, want);
    }

    public void offer(int give, int want) throws IllegalArgumentException, IllegalStateException {
        requireBothSides(give, want);
        requirePhase(ACT);
        requireHas(turn, give);
        bargain.setOffer(give, want);
    }

    public void counter(int player, int give, int want)
            throws IndexOutOfBoundsException, IllegalArgumentException, IllegalStateException {
        requirePlayer(player);
        requireBothSides(give, want);
        requirePhase(ACT);
        requireSo(player != turn);
        requireSo(bargain.isOffered());
        requireHas(player, give);
        bargain.setCounter(player, give, want);
    }

    public int accept(int player) throws IndexOutOfBoundsException, IllegalStateException {
        requirePlayer(player);
        requirePhase(ACT);
        requireSo(player != turn);
        requireSo(bargain.isOffered());
        exchange(player, bargain.offerWant(), bargain.offerGive());
        return stock.total(player);
    }

    public int agree(int player) throws IndexOutOfBoundsException, IllegalStateException {
        requirePlayer(player);
        requirePhase(ACT);
        requireSo(bargain.hasCounter(player));
        exchange(player, bargain.counterGive(player), bargain.counterWant(player));
        return stock.total(turn);
    }

    public int endTurn() throws IllegalStateException {
        requirePhase(ACT);
        bargain.clear();
        cards.startTurn();
        turn = turn + 1 < PLAYERS ? turn + 1 : 0;
        phase = ROLL;
        endIfWon();
        return turn;
    }

    // ---- what is so

    public int phase() {
        return phase;
    }

    public int turn() {
        return turn;
    }

    public int hand(int player, int good) throws IndexOutOfBoundsException, IllegalArgumentException {
        requireHolder(player);
        requireGood(good);
        return stock.count(player, good);
    }

    public int handByMoves(int player, int good) throws IndexOutOfBoundsException, IllegalArgumentException {
        requireHolder(player);
        requireGood(good);
        return stock.countByMoves(player, good);
    }

    public int due(int player) throws IndexOutOfBoundsException {
        requirePlayer(player);
        return dueFrom(player);
    }

    public int points(int player) throws IndexOutOfBoundsException {
        requirePlayer(player);
        return pointsOf(player);
    }

    public int trail(int player) throws IndexOutOfBoundsException {
        requirePlayer(player);
        return trails.bySearch(land, player);
    }

    public int trailBySets(int player) throws IndexOutOfBoundsException {
        requirePlayer(player);
        return trails.bySets(land, player);
    }

    public int holder(boolean army) {
        return army ? cards.armyHolder() : trailHolder;
    }

    public int knights(int player) throws IndexOutOfBoundsException {
        requirePlayer(player);
        return cards.usedKnights(player);
    }

    public int cards(int player, int kind) throws IndexOutOfBoundsException, IllegalArgumentException {
        requirePlayer(player);
        if (kind < KNIGHT || kind > POINT) {
            throw new IllegalArgumentException("no such kind of card");
        }
        return cards.count(player, kind);
    }

    public int buildingAt(int corner) throws IndexOutOfBoundsException {
        requireCorner(corner);
        return land.building(corner);
    }

    public int roadAt(int edge) throws IndexOutOfBoundsException {
        requireEdge(edge);
        return land.roadOwner(edge);
    }

    public int robber() {
        return land.robberHex();
    }

    public int rate(int player, int good) throws IndexOutOfBoundsException, IllegalArgumentException {
        requirePlayer(player);
        requireGood(good);
        return rateOf(player, good);
    }

    public int wouldGet(int player, int good, int sum) throws IndexOutOfBoundsException, IllegalArgumentException {
        requirePlayer(player);
        requireGood(good);
        if (sum < 2 || sum > 12) {
            throw new IllegalArgumentException("no such sum");
        }
        return yieldTo(player, good, sum);
    }

    // ---- what a call has to be given

    private static void requireIndex(int index, int bound) {
        if (index < 0 || index >= bound) {
            throw new IndexOutOfBoundsException("there is none of this number");
        }
    }

    private static void requirePlayer(int player) {
        requireIndex(player, PLAYERS);
    }

    private static void requireHolder(int holder) {
        requireIndex(holder, HOLDERS);
    }

    private static void requireHex(int hex) {
        requireIndex(hex, HEXES);
    }

    private static void requireCorner(int corner) {
        requireIndex(corner, CORNERS);
    }

    private static void requireEdge(int edge) {
        requireIndex(edge, EDGES);
    }

    private static void requireGood(int good) {
        if (good < 0 || good >= GOODS) {
            throw new IllegalArgumentException("no such good");
        }
    }

    private static void requireGoods(int goods) {
        if (goods < 0 || goods > MOST_GOODS) {
            throw new IllegalArgumentException("no such number of goods");
        }
    }

    private static void requireBothSides(int give, int want) {
        requireGoods(give);
        requireGoods(want);
        if (give == 0 || want == 0) {
            throw new IllegalArgumentException("nothing is no side of an offer");
        }
    }

    private static void requireRobbery(int hex, int victim, int draw) {
        requireHex(hex);
        if (victim != NONE) {
            requirePlayer(victim);
        }
        if (draw < 0 || draw > MOST_DRAW) {
            throw new IllegalArgumentException("no such draw");
        }
    }

    // ---- what has to be so for a call

    private static void requireSo(boolean allowed) {
        if (!allowed) {
            throw new IllegalStateException("the game does not allow that now");
        }
    }

    private void requirePhase(int wanted) {
        if (phase != wanted) {
            throw new IllegalStateException("it is not the time for that");
        }
    }

    private void requireHas(int holder, int goods) {
        if (!stock.has(holder, goods)) {
            throw new IllegalStateException("somebody has not what is to be given");
        }
    }

    private void requireUsable(int kind) {
        if (phase != ROLL && phase != ACT) {
            throw new IllegalStateException("it is not the time for a card");
        }
        requireSo(cards.canUse(turn, kind));
    }

    private void requireRobberMay(int hex, int victim) {
        requireSo(hex != land.robberHex());
        if (victim == NONE) {
            for (int player = 0; player < PLAYERS; player++) {
                requireSo(!canBeRobbed(player, hex));
            }
        } else {
            requireSo(canBeRobbed(victim, hex));
        }
    }

    private boolean canBeRobbed(int player, int hex) {
        return player != turn && land.weightAround(player, hex) > 0 && stock.total(player) > 0;
    }

    private boolean canBuildRoad(int edge) {
        return land.countRoads(turn) < MOST_ROADS && land.canTakeRoad(edge, turn);
    }

    // ---- the course of the game

    private void goOnPlacing() {
        if (placings >= PLACINGS) {
            turn = 0;
            phase = ROLL;
        } else {
            turn = placings < PLAYERS ? placings : PLACINGS - 1 - placings;
        }
    }

    private void gainFromNewHouse(int corner) {
        for (int hex = 0; hex < HEXES; hex++) {
            int good = land.goodOf(hex);
            if (Land.isAround(hex, corner) && stock.count(BANK, good) > 0) {
                stock.move(BANK, turn, good, 1);
            }
        }
    }

    private void lookAtLand() {
        updateTrailHolder();
        endIfWon();
    }

    private void updateTrailHolder() {
        int greatest = 0;
        int havers = 0;
        int haver = NONE;
        boolean stays = false;
        for (int player = 0; player < PLAYERS; player++) {
            int length = trails.bySearch(land, player);
            if (length > greatest) {
                greatest = length;
                havers = 0;
                stays = false;
            }
            if (length == greatest) {
                havers++;
                haver = player;
                stays = stays || player == trailHolder;
            }
        }
        if (greatest < LEAST_TRAIL) {
            trailHolder = NONE;
        } else if (!stays) {
            trailHolder = havers == 1 ? haver : NONE;
        }
    }

    private void endIfWon() {
        if (phase != PLACE && pointsOf(turn) >= POINTS_TO_WIN) {
            phase = OVER;
        }
    }

    private int pointsOf(int player) {
        int sum = land.countBuildings(player) + 2 * land.countBuildings(PLAYERS + player) + cards.count(player, POINT);
        if (player == trailHolder) {
            sum += 2;
        }
        if (player == cards.armyHolder()) {
            sum += 2;
        }
        return sum;
    }

    private void yieldAll(int sum) {
        for (int good = 0; good < GOODS; good++) {
            // All shares are reckoned ahead of the first move, because each move makes the bank smaller.
            for (int player = 0; player < grants.length; player++) {
                grants[player] = yieldTo(player, good, sum);
            }
            for (int player = 0; player < grants.length; player++) {
                stock.move(BANK, player, good, grants[player]);
            }
        }
    }

    private int yieldTo(int player, int good, int sum) {
        int all = 0;
        for (int each = 0; each < PLAYERS; each++) {
            all += land.yieldOf(each, good, sum);
        }
        int own = land.yieldOf(player, good, sum);
        int banked = stock.count(BANK, good);
        if (all <= banked) {
            return own;
        }
        return own == all ? banked : 0;
    }

    private void demandDiscards() {
        for (int player = 0; player < PLAYERS; player++) {
            int total = stock.total(player);
            setDue(player, total > MOST_KEPT_ON_SEVEN ? total / 2 : 0);
        }
        phase = isAnyDue() ? DISCARD : ROB;
    }

    private int dueFrom(int player) {
        return player >= 0 && player < dues.length ? dues[player] : 0;
    }

    private void setDue(int player, int many) {
        if (player >= 0 && player < dues.length) {
            dues[player] = many;
        }
    }

    private boolean isAnyDue() {
        for (int player = 0; player < dues.length; player++) {
            if (dues[player] > 0) {
                return true;
            }
        }
        return false;
    }

    private int moveRobber(int hex, int victim, int draw) {
        land.putRobber(hex);
        int stolen = stock.drawnGood(victim, draw);
        if (stolen != NONE) {
            stock.move(victim, turn, stolen, 1);
        }
        return stolen;
    }

    private void exchange(int player, int give, int want) {
        requireHas(player, give);
        requireHas(turn, want);
        stock.moveAll(player, turn, give);
        stock.moveAll(turn, player, want);
        bargain.clear();
    }

    private int rateOf(int player, int good) {
        int fewest = 4;
        for (int corner = 0; corner < CORNERS; corner++) {
            if (land.ownerAt(corner) == player) {
                fewest = Math.min(fewest, Land.rateAt(corner, good));
            }
        }
        return fewest;
    }

    /** The hexagons, what stands on corners and edges, and the robber. */
    private static final class Land {
        private static final int RING = 6, SHORE = 18, ANY_HARBOUR = 5;

        private final int[] hexGoods = {DESERT, BRICK, WOOD, WOOL, GRAIN, ORE, WOOD};
        private final int[] hexNumbers = {7, 6, 5, 9, 4, 10, 8};
        // As buildingAt answers: the player for a house, PLAYERS + the player for a city.
        private final int[] buildings = new int[CORNERS];
        private final int[] roadOwners = new int[EDGES];
        private int robberHex = 0;

        Land() {
            for (int corner = 0; corner < buildings.length; corner++) {
                buildings[corner] = NONE;
            }
            for (int edge = 0; edge < roadOwners.length; edge++) {
                roadOwners[edge] = NONE;
            }
        }

        static int oneEnd(int edge) {
            return edge < RING ? edge : edge - RING;
        }

        static int otherEnd(int edge) {
            if (edge < RING) {
                return (edge + 1) % RING;
            }
            if (edge < 2 * RING) {
                return RING + 3 * (edge - RING);
            }
            return RING + (edge - 2 * RING + 1) % SHORE;
        }

        static boolean isEnd(int edge, int corner) {
            return oneEnd(edge) == corner || otherEnd(edge) == corner;
        }

        static int cornerOf(int hex, int index) {
            if (hex == 0) {
                return index;
            }
            if (index < 2) {
                return (hex - 1 + index) % RING;
            }
            return RING + (3 * (hex - 1) + index - 2) % SHORE;
        }

        static boolean isAround(int hex, int corner) {
            for (int index = 0; index < HEX_CORNERS; index++) {
                if (cornerOf(hex, index) == corner) {
                    return true;
                }
            }
            return false;
        }

        static int rateAt(int corner, int good) {
            int along = corner - RING - 1;
            if (along < 0 || along % 3 == 2) {
                return 4;
            }
            int harbour = along / 3;
            if (harbour == ANY_HARBOUR) {
                return 3;
            }
            return harbour == good ? 2 : 4;
        }

        void changeHex(int hex, int good, int number) {
            if (hex >= 0 && hex < hexGoods.length && hex < hexNumbers.length) {
                hexGoods[hex] = good;
                hexNumbers[hex] = number;
            }
        }

        int goodOf(int hex) {
            return hex >= 0 && hex < hexGoods.length ? hexGoods[hex] : DESERT;
        }

        int robberHex() {
            return robberHex;
        }

        void putRobber(int hex) {
            robberHex = hex;
        }

        int building(int corner) {
            return corner >= 0 && corner < buildings.length ? buildings[corner] : NONE;
        }

        void putBuilding(int corner, int building) {
            if (corner >= 0 && corner < buildings.length) {
                buildings[corner] = building;
            }
        }

        int countBuildings(int building) {
            int count = 0;
            for (int corner = 0; corner < buildings.length; corner++) {
                if (buildings[corner] == building) {
                    count++;
                }
            }
            return count;
        }

        int ownerAt(int corner) {
            if (corner < 0 || corner >= buildings.length) {
                return NONE;
            }
            return buildings[corner] >= PLAYERS ? buildings[corner] - PLAYERS : buildings[corner];
        }

        int roadOwner(int edge) {
            return edge >= 0 && edge < roadOwners.length ? roadOwners[edge] : NONE;
        }

        void putRoad(int edge, int player) {
            if (edge >= 0 && edge < roadOwners.length) {
                roadOwners[edge] = player;
            }
        }

        int countRoads(int player) {
            int count = 0;
            for (int edge = 0; edge < roadOwners.length; edge++) {
                if (roadOwners[edge] == player) {
                    count++;
                }
            }
            return count;
        }

        boolean hasRoadAt(int player, int corner) {
            for (int edge = 0; edge < roadOwners.length; edge++) {
                if (roadOwners[edge] == player && isEnd(edge, corner)) {
                    return true;
                }
            }
            return false;
        }

        boolean canTakeHouse(int corner) {
            if (building(corner) != NONE) {
                return false;
            }
            for (int edge = 0; edge < EDGES; edge++) {
                if (isEnd(edge, corner) && (building(oneEnd(edge)) != NONE || building(otherEnd(edge)) != NONE)) {
                    return false;
                }
            }
            return true;
        }

        boolean canTakeRoad(int edge, int player) {
            return roadOwner(edge) == NONE
                    && (canStartRoad(oneEnd(edge), player) || canStartRoad(otherEnd(edge), player));
        }

        private boolean canStartRoad(int corner, int player) {
            int owner = ownerAt(corner);
            return owner == player || owner == NONE && hasRoadAt(player, corner);
        }

        int weightAround(int player, int hex) {
            int weight = 0;
            for (int index = 0; index < HEX_CORNERS; index++) {
                int building = building(cornerOf(hex, index));
                if (building == player) {
                    weight += 1;
                } else if (building == PLAYERS + player) {
                    weight += 2;
                }
            }
            return weight;
        }

        /** What the hexagons of a sum bear for a player, however much the bank has. */
        int yieldOf(int player, int good, int sum) {
            int shares = 0;
            for (int hex = 0; hex < hexGoods.length && hex < hexNumbers.length; hex++) {
                if (hexNumbers[hex] == sum && hexGoods[hex] == good && hex != robberHex) {
                    shares += weightAround(player, hex);
                }
            }
            return shares;
        }
    }

    /** The goods of the players and of the bank, and all that has moved between them. */
    private static final class Stock {
        private static final int AT_FIRST = 12;

        private final int[][] kept = new int[HOLDERS][GOODS];
        // The row from * HOLDERS + to tells how many of each good have ever moved that way.
        private final int[][] moved = new int[HOLDERS * HOLDERS][GOODS];

        Stock() {
            for (int good = 0; good < GOODS; good++) {
                kept[BANK][good] = AT_FIRST;
            }
        }

        static int single(int good) {
            int goods = 1;
            for (int each = 0; each < good && each < GOODS; each++) {
                goods *= 10;
            }
            return goods;
        }

        static int part(int goods, int good) {
            int rest = goods;
            for (int each = 0; each < good && each < GOODS; each++) {
                rest /= 10;
            }
            return rest % 10;
        }

        static int size(int goods) {
            int sum = 0;
            for (int good = 0; good < GOODS; good++) {
                sum += part(goods, good);
            }
            return sum;
        }

        private static boolean isPlace(int holder, int good) {
            return holder >= 0 && holder < HOLDERS && good >= 0 && good < GOODS;
        }

        int count(int holder, int good) {
            return isPlace(holder, good) ? kept[holder][good] : 0;
        }

        int countByMoves(int holder, int good) {
            if (!isPlace(holder, good)) {
                return 0;
            }
            int count = holder == BANK ? AT_FIRST : 0;
            for (int other = 0; other < HOLDERS; other++) {
                count += moved[other * HOLDERS + holder][good];
                count -= moved[holder * HOLDERS + other][good];
            }
            return count;
        }

        int total(int holder) {
            int sum = 0;
            for (int good = 0; good < GOODS; good++) {
                sum += count(holder, good);
            }
            return sum;
        }

        boolean has(int holder, int goods) {
            for (int good = 0; good < GOODS; good++) {
                if (count(holder, good) < part(goods, good)) {
                    return false;
                }
            }
            return true;
        }

        void move(int from, int to, int good, int many) {
            if (isPlace(from, good) && isPlace(to, good)) {
                kept[from][good] -= many;
                kept[to][good] += many;
                moved[from * HOLDERS + to][good] += many;
            }
        }

        void moveAll(int from, int to, int goods) {
            for (int good = 0; good < GOODS; good++) {
                move(from, to, good, part(goods, good));
            }
        }

        int drawnGood(int victim, int draw) {
            int total = total(victim);
            if (victim == NONE || total <= 0) {
                return NONE;
            }
            int ahead = draw % total;
            for (int good = 0; good < GOODS; good++) {
                ahead -= count(victim, good);
                if (ahead < 0) {
                    return good;
                }
            }
            return NONE;
        }
    }

    /** The longest trail of a player, found in two ways over the same rows of road ends. */
    private static final class Trails {
        private final int[] ones = new int[MOST_ROADS];
        private final int[] others = new int[MOST_ROADS];
        private int count = 0;

        int bySearch(Land land, int player) {
            gather(land, player);
            int longest = 0;
            for (int road = 0; road < count && road < MOST_ROADS; road++) {
                longest = Math.max(longest, 1 + goOn(ones, others, count, ones[road], 1 << road, 1));
                longest = Math.max(longest, 1 + goOn(ones, others, count, others[road], 1 << road, 1));
            }
            return longest;
        }

        int bySets(Land land, int player) {
            gather(land, player);
            int largest = 0;
            for (int set = 1; set < 1 << count; set++) {
                int size = Integer.bitCount(set);
                if (size > largest && hasFewOddEnds(set) && hangsTogether(set)) {
                    largest = size;
                }
            }
            return largest;
        }

        private void gather(Land land, int player) {
            count = 0;
            for (int edge = 0; edge < EDGES && count < MOST_ROADS; edge++) {
                if (land.roadOwner(edge) == player) {
                    ones[count] = endFor(land, player, Land.oneEnd(edge), CORNERS + 2 * count);
                    others[count] = endFor(land, player, Land.otherEnd(edge), CORNERS + 2 * count + 1);
                    count++;
                }
            }
        }

        /** Nobody goes through a stranger's building, so each road there gets an end that no other road shares. */
        private static int endFor(Land land, int player, int corner, int deadEnd) {
            int owner = land.ownerAt(corner);
            return owner == NONE || owner == player ? corner : deadEnd;
        }

        private static int goOn(int[] ones, int[] others, int count, int end, int gone, int depth) {
            if (depth >= MOST_ROADS) {
                return 0;
            }
            int longest = 0;
            for (int road = 0; road < count && road < ones.length && road < others.length; road++) {
                if ((gone >> road & 1) == 0 && (ones[road] == end || others[road] == end)) {
                    int next = ones[road] == end ? others[road] : ones[road];
                    int length = 1 + goOn(ones, others, count, next, gone | 1 << road, depth + 1);
                    longest = Math.max(longest, length);
                }
            }
            return longest;
        }

        /** One way along all roads of a set leaves no end, or just its first and its last, with an odd number. */
        private boolean hasFewOddEnds(int set) {
            long odd = 0;
            for (int road = 0; road < count && road < MOST_ROADS; road++) {
                if ((set >> road & 1) != 0) {
                    odd ^= bothEnds(road);
                }
            }
            return Long.bitCount(odd) <= 2;
        }

        private boolean hangsTogether(int set) {
            long reached = 0;
            int joined = 0;
            for (int round = 0; round < count; round++) {
                for (int road = 0; road < count; road++) {
                    if ((set >> road & 1) != 0 && (joined == 0 || (bothEnds(road) & reached) != 0)) {
                        reached |= bothEnds(road);
                        joined |= 1 << road;
                    }
                }
            }
            return joined == set;
        }

        private long bothEnds(int road) {
            return road >= 0 && road < MOST_ROADS ? 1L << ones[road] | 1L << others[road] : 0;
        }
    }

    /** The growth cards, and the army of those that are used. */
    private static final class Cards {
        private static final int[] ORDER = {
            KNIGHT, POINT, ROADS, KNIGHT, PLENTY, MONOPOLY, KNIGHT, POINT,
            KNIGHT, ROADS, PLENTY, KNIGHT, MONOPOLY, KNIGHT, POINT
        };

        private final int[][] held = new int[PLAYERS][KINDS];
        private final int[] boughtNow = new int[KINDS];
        private final int[] armies = new int[PLAYERS];
        private int bought = 0;
        private boolean usedNow = false;
        private int armyHolder = NONE;

        private static boolean isPlace(int player, int kind) {
            return player >= 0 && player < PLAYERS && kind >= 0 && kind < KINDS;
        }

        boolean areLeft() {
            return bought < ORDER.length;
        }

        int give(int player) {
            if (bought < 0 || bought >= ORDER.length) {
                return NONE;
            }
            int kind = ORDER[bought];
            if (isPlace(player, kind)) {
                bought++;
                held[player][kind]++;
                boughtNow[kind]++;
            }
            return kind;
        }

        int count(int player, int kind) {
            return isPlace(player, kind) ? held[player][kind] : 0;
        }

        boolean canUse(int player, int kind) {
            return !usedNow && isPlace(player, kind) && held[player][kind] > boughtNow[kind];
        }

        void use(int player, int kind) {
            if (isPlace(player, kind)) {
                held[player][kind]--;
                usedNow = true;
                if (kind == KNIGHT) {
                    armies[player]++;
                    updateArmyHolder(player);
                }
            }
        }

        private void updateArmyHolder(int player) {
            int least = armyHolder == NONE ? LEAST_ARMY : usedKnights(armyHolder) + 1;
            if (usedKnights(player) >= least) {
                armyHolder = player;
            }
        }

        int usedKnights(int player) {
            return player >= 0 && player < armies.length ? armies[player] : 0;
        }

        int armyHolder() {
            return armyHolder;
        }

        void startTurn() {
            usedNow = false;
            for (int kind = 0; kind < boughtNow.length; kind++) {
                boughtNow[kind] = 0;
            }
        }
    }

    /** The offer and the counter-offers; a side of 0 goods says that there is none, as no offer has such a side. */
    private static final class Bargain {
        private int give = 0;
        private int want = 0;
        private final int[] counterGives = new int[PLAYERS];
        private final int[] counterWants = new int[PLAYERS];

        void clear() {
            setOffer(0, 0);
        }

        void setOffer(int newGive, int newWant) {
            give = newGive;
            want = newWant;
            for (int player = 0; player < PLAYERS; player++) {
                setCounter(player, 0, 0);
            }
        }

        void setCounter(int player, int newGive, int newWant) {
            if (player >= 0 && player < PLAYERS) {
                counterGives[player] = newGive;
                counterWants[player] = newWant;
            }
        }

        boolean isOffered() {
            return give != 0;
        }

        int offerGive() {
            return give;
        }

        int offerWant() {
            return want;
        }

        boolean hasCounter(int player) {
            return counterGive(player) != 0;
        }

        int counterGive(int player) {
            return player >= 0 && player < PLAYERS ? counterGives[player] : 0;
        }

        int counterWant(int player) {
            return player >= 0 && player < PLAYERS ? counterWants[player] : 0;
        }
    }
}
