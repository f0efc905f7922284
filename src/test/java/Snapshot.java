/** All that can be asked of an object, as one text: two that are the same show that nothing has changed. */
final class Snapshot {
    private Snapshot() {
    }

    static String of(Hexstead x) {
        StringBuilder text = new StringBuilder();
        text.append(x.phase()).append(' ').append(x.turn()).append(' ').append(x.robber());
        text.append(" holders ").append(x.holder(false)).append(' ').append(x.holder(true));
        for (int holder = 0; holder < 4; holder++) {
            text.append(" goods");
            for (int good = 0; good < 5; good++) {
                text.append(' ').append(x.hand(holder, good)).append('=').append(x.handByMoves(holder, good));
            }
        }
        for (int player = 0; player < 3; player++) {
            addPlayer(text, x, player);
        }
        text.append(" board");
        for (int corner = 0; corner < 24; corner++) {
            text.append(' ').append(x.buildingAt(corner));
        }
        for (int edge = 0; edge < 30; edge++) {
            text.append(' ').append(x.roadAt(edge));
        }
        return text.toString();
    }

    private static void addPlayer(StringBuilder text, Hexstead x, int player) {
        text.append(" player ").append(x.due(player)).append(' ').append(x.points(player));
        text.append(' ').append(x.trail(player)).append(' ').append(x.trailBySets(player));
        text.append(' ').append(x.knights(player));
        for (int kind = 0; kind < 5; kind++) {
            text.append(' ').append(x.cards(player, kind));
        }
        for (int good = 0; good < 5; good++) {
            text.append(' ').append(x.rate(player, good));
            for (int sum = 2; sum <= 12; sum++) {
                text.append(' ').append(x.wouldGet(player, good, sum));
            }
        }
    }
}
