/** Promises 16 to 20 and 36: swapping with the bank, offers and counter-offers. */
final class TradeTest {
    private TradeTest() {
    }

    public static void main(String[] args) {
        rates();
        fewestCount();
        swap();
        swapRefused();
        accept();
        acceptOfTheSameGood();
        acceptRefused();
        offerRefused();
        offerInPlaceOfAnother();
        counterAndAgree();
        counterRefused();
        inTheTurnOfAnother();
        counterInPlaceOfAnother();
        agreeRefused();
        goneAtTheEndOfTheTurn();
        notInItsTime();
        Check.end();
    }

    private static int harbourAt(int corner) {
        int[] first = {7, 10, 13, 16, 19, 22};
        for (int k = 0; k < 6; k++) {
            if (corner == first[k] || corner == first[k] + 1) {
                return k;
            }
        }
        return -1;
    }

    private static void rates() {
        for (int corner = 0; corner < 24; corner++) {
            Hexstead x = new Hexstead();
            for (int edge = 0; edge < 30 && x.turn() == 0; edge++) {
                int c = corner;
                int e = edge;
                Check.thrownBy(() -> x.place(c, e));
            }
            int harbour = harbourAt(corner);
            for (int good = 0; good < 5; good++) {
                int due = harbour == 5 ? 3 : harbour == good ? 2 : 4;
                Check.same("36: corner " + corner + " good " + good, x.rate(0, good), due);
                Check.same("36: of another one", x.rate(1, good), 4);
            }
        }
    }

    private static void fewestCount() {
        Hexstead x = Games.deserts();
        x.place(22, 27);
        x.place(2, 8);
        x.place(4, 10);
        x.place(16, 21);
        x.place(13, 18);
        x.place(19, 24);
        x.deal(0, 94000);
        x.roll(1, 1);
        Check.same("36: 2 ahead of 3", x.rate(0, Hexstead.ORE), 2);
        Check.same("36: 3 of any", x.rate(0, Hexstead.WOOL), 3);
        x.city(19);
        Check.same("36: a city, too", x.rate(0, Hexstead.ORE), 2);
        x.city(22);
        Check.same("36: 3 of any by a city", x.rate(0, Hexstead.BRICK), 3);
    }

    private static void swap() {
        Hexstead x = Games.placedOnDeserts();
        x.deal(0, 94);
        x.roll(1, 1);
        Check.same("16: 2 BRICK for a WOOL", x.swap(Hexstead.BRICK, Hexstead.WOOL), 1);
        Check.same("16: paid", Games.goods(x, 0), 192);
        Check.same("16: and one more", x.swap(Hexstead.BRICK, Hexstead.WOOL), 2);
        Check.same("16: 4 WOOD for a BRICK", x.swap(Hexstead.WOOD, Hexstead.BRICK), 1);
        Check.same("16: paid", Games.goods(x, 0), 251);
        Check.same("16: into the bank", x.hand(3, Hexstead.WOOD), 7);
        Check.same("16: from the bank", x.hand(3, Hexstead.WOOL), 10);
    }

    private static void swapRefused() {
        Hexstead x = Games.placedOnDeserts();
        x.deal(0, 33);
        x.deal(1, 2000);
        x.deal(2, 99000);
        x.deal(2, 30000);
        x.roll(1, 1);
        int[] wrong = {-1, 5, Integer.MAX_VALUE};
        for (int good : wrong) {
            Check.refused("16: give " + good, x, Check.ARGUMENT, () -> x.swap(good, 1));
            Check.refused("16: want " + good, x, Check.ARGUMENT, () -> x.swap(0, good));
        }
        Check.refused("16: both the same", x, Check.ARGUMENT, () -> x.swap(0, 0));
        Check.refused("16: 3 WOOD are too few", x, Check.STATE, () -> x.swap(Hexstead.WOOD, Hexstead.BRICK));
        Check.refused("16: no WOOL at all", x, Check.STATE, () -> x.swap(Hexstead.WOOL, Hexstead.BRICK));
        Check.refused("16: the bank has no ORE", x, Check.STATE, () -> x.swap(Hexstead.BRICK, Hexstead.ORE));
        Check.same("24: the bank has one GRAIN", x.hand(3, Hexstead.GRAIN), 1);
        Check.same("16: the last one", x.swap(Hexstead.BRICK, Hexstead.GRAIN), 1);
        Check.refused("16: one BRICK is too few", x, Check.STATE, () -> x.swap(Hexstead.BRICK, Hexstead.WOOL));
    }

    /** 0 has 3 BRICK and 2 WOOD, 1 has 3 WOOL and 2 GRAIN, 2 has 4 ORE and a WOOL; 0 has rolled. */
    private static Hexstead market() {
        Hexstead x = Games.placedOnDeserts();
        x.deal(0, 23);
        x.deal(1, 2300);
        x.deal(2, 40100);
        x.roll(1, 1);
        return x;
    }

    private static void accept() {
        Hexstead x = market();
        x.offer(12, 1200);
        Check.same("19: how many 1 has", x.accept(1), 5);
        Check.same("19: 0", Games.goods(x, 0), 1211);
        Check.same("19: 1", Games.goods(x, 1), 1112);
        Check.same("25: by moves", x.handByMoves(1, Hexstead.BRICK), 2);
        Check.refused("19: the offer is gone", x, Check.STATE, () -> x.accept(1));
        Check.refused("18: the offer is gone", x, Check.STATE, () -> x.counter(2, 100, 1));
        x.offer(1, 30000);
        Check.same("19: the next one", x.accept(2), 3);
        Check.same("24: ORE", x.hand(0, Hexstead.ORE), 3);
    }

    private static void acceptOfTheSameGood() {
        Hexstead x = market();
        x.offer(3, 1);
        Check.refused("19: 1 has no BRICK", x, Check.STATE, () -> x.accept(1));
        x.offer(1, 100);
        x.accept(1);
        x.offer(2, 1);
        Check.same("19: 2 BRICK for one", x.accept(1), 6);
        Check.same("19: all three", x.hand(1, Hexstead.BRICK), 2);
        Check.same("19: one", x.hand(0, Hexstead.BRICK), 1);
    }

    private static void acceptRefused() {
        Hexstead x = market();
        Check.refused("19: no offer", x, Check.STATE, () -> x.accept(1));
        x.offer(3, 1000);
        Check.refused("19: player 3", x, Check.INDEX, () -> x.accept(3));
        Check.refused("19: player -1", x, Check.INDEX, () -> x.accept(-1));
        Check.refused("19: the own turn", x, Check.STATE, () -> x.accept(0));
        x.offer(1, 10);
        Check.refused("19: the own turn, with all the goods", x, Check.STATE, () -> x.accept(0));
        x.offer(3, 1000);
        Check.refused("19: 2 has no GRAIN", x, Check.STATE, () -> x.accept(2));
        x.swap(Hexstead.BRICK, Hexstead.WOOL);
        Check.refused("19: 0 has not so many any more", x, Check.STATE, () -> x.accept(1));
        x.offer(11, 1000);
        Check.same("19: an offer of what there is", x.accept(1), 6);
        x.endTurn();
        Check.refused("19: index ahead of state", x, Check.INDEX, () -> x.accept(3));
    }

    private static void offerRefused() {
        Hexstead x = market();
        int[] wrong = {0, -1, 100000, Integer.MIN_VALUE};
        for (int goods : wrong) {
            Check.refused("17: give " + goods, x, Check.ARGUMENT, () -> x.offer(goods, 100));
            Check.refused("17: want " + goods, x, Check.ARGUMENT, () -> x.offer(1, goods));
        }
        Check.refused("17: has not so many", x, Check.STATE, () -> x.offer(4, 100));
        Check.refused("17: has none", x, Check.STATE, () -> x.offer(10001, 100));
        x.offer(23, 99999);
        Check.refused("17: a refused one", x, Check.STATE, () -> x.offer(30, 1));
        x.counter(1, 100, 1);
        Check.same("17: leaves the offer and the counter-offer", x.agree(1), 5);
    }

    private static void offerInPlaceOfAnother() {
        Hexstead x = market();
        x.offer(1, 100);
        x.counter(1, 1000, 1);
        x.counter(2, 10000, 1);
        x.offer(10, 100);
        Check.refused("20: counter-offers ahead of it are gone", x, Check.STATE, () -> x.agree(1));
        Check.refused("20: counter-offers ahead of it are gone", x, Check.STATE, () -> x.agree(2));
        x.accept(1);
        Check.same("19: by the offer that was made last", Games.goods(x, 0), 113);
    }

    private static void counterAndAgree() {
        Hexstead x = market();
        x.offer(1, 20000);
        x.counter(2, 10100, 12);
        x.counter(1, 1100, 20);
        Check.same("20: how many 0 has", x.agree(2), 4);
        Check.same("20: 0", Games.goods(x, 0), 10111);
        Check.same("20: 2", Games.goods(x, 2), 30012);
        Check.same("25: by moves", x.handByMoves(2, Hexstead.WOOD), 1);
        Check.refused("20: all are gone", x, Check.STATE, () -> x.agree(1));
        Check.refused("20: all are gone", x, Check.STATE, () -> x.agree(2));
        Check.refused("19: the offer, too", x, Check.STATE, () -> x.accept(2));
        Hexstead y = market();
        y.offer(1, 20000);
        y.counter(1, 1000, 1);
        Check.same("19: the offer stands beside a counter-offer", y.accept(2), 4);
        Check.refused("20: gone with the offer", y, Check.STATE, () -> y.agree(1));
    }

    private static void counterRefused() {
        Hexstead x = market();
        Check.refused("18: no offer", x, Check.STATE, () -> x.counter(1, 100, 1));
        x.offer(1, 100);
        Check.refused("18: player 3", x, Check.INDEX, () -> x.counter(3, 0, 0));
        Check.refused("18: player -1", x, Check.INDEX, () -> x.counter(-1, 100, 1));
        int[] wrong = {0, -1, 100000, Integer.MIN_VALUE};
        for (int goods : wrong) {
            Check.refused("18: give " + goods, x, Check.ARGUMENT, () -> x.counter(1, goods, 1));
            Check.refused("18: want " + goods, x, Check.ARGUMENT, () -> x.counter(1, 100, goods));
            Check.refused("18: argument ahead of state", x, Check.ARGUMENT, () -> x.counter(0, goods, 1));
        }
        Check.refused("18: the own turn", x, Check.STATE, () -> x.counter(0, 1, 100));
        Check.refused("18: has not so many", x, Check.STATE, () -> x.counter(1, 400, 1));
        Check.refused("18: has none", x, Check.STATE, () -> x.counter(2, 1000, 1));
        x.counter(1, 2300, 99999);
        Check.refused("20: 0 has not so many", x, Check.STATE, () -> x.agree(1));
    }

    private static void inTheTurnOfAnother() {
        Hexstead x = market();
        x.endTurn();
        x.roll(1, 1);
        x.offer(100, 10000);
        x.counter(0, 1, 100);
        Check.refused("18: the own turn", x, Check.STATE, () -> x.counter(1, 100, 1));
        x.offer(100, 10000);
        Check.refused("20: gone with the next offer", x, Check.STATE, () -> x.agree(0));
        x.counter(0, 12, 1100);
        Check.same("20: how many 1 has", x.agree(0), 6);
        Check.same("20: 1", Games.goods(x, 1), 1212);
        Check.same("20: 0", Games.goods(x, 0), 1111);
    }

    private static void counterInPlaceOfAnother() {
        Hexstead x = market();
        x.offer(1, 100);
        x.counter(1, 100, 3);
        x.counter(1, 2000, 10);
        x.counter(2, 10000, 10);
        Check.refused("18: a refused one", x, Check.STATE, () -> x.counter(1, 10, 1));
        Check.same("20: the last one counts", x.agree(1), 6);
        Check.same("20: which", Games.goods(x, 0), 2013);
    }

    private static void agreeRefused() {
        Hexstead x = market();
        Check.refused("20: no offer", x, Check.STATE, () -> x.agree(1));
        x.offer(3, 100);
        x.counter(1, 100, 2);
        Check.refused("20: player 3", x, Check.INDEX, () -> x.agree(3));
        Check.refused("20: player -1", x, Check.INDEX, () -> x.agree(-1));
        Check.refused("20: 2 made none", x, Check.STATE, () -> x.agree(2));
        Check.refused("20: nor 0", x, Check.STATE, () -> x.agree(0));
        x.swap(Hexstead.BRICK, Hexstead.ORE);
        Check.refused("20: 0 has not so many any more", x, Check.STATE, () -> x.agree(1));
        x.endTurn();
        Check.refused("20: index ahead of state", x, Check.INDEX, () -> x.agree(3));
    }

    private static void goneAtTheEndOfTheTurn() {
        Hexstead x = market();
        x.offer(1, 100);
        x.counter(2, 10000, 1);
        x.endTurn();
        x.roll(1, 1);
        Check.refused("21: the offer is gone", x, Check.STATE, () -> x.accept(2));
        Check.refused("21: the offer is gone", x, Check.STATE, () -> x.counter(2, 10000, 1));
        Check.refused("21: the counter-offer is gone", x, Check.STATE, () -> x.agree(2));
        x.offer(100, 1);
        Check.refused("21: the counter-offer is gone", x, Check.STATE, () -> x.agree(2));
        Check.same("19: in the turn of 1", x.accept(0), 5);
    }

    private static void notInItsTime() {
        Hexstead x = new Hexstead();
        x.deal(0, 99);
        refusedAll("they still place", x);
        Hexstead y = Games.placedOnDeserts();
        y.deal(0, 99);
        y.deal(1, 100);
        refusedAll("nobody has rolled", y);
        y.roll(1, 6);
        refusedAll("discards are due", y);
        y.discard(0, 90);
        refusedAll("the robber is due", y);
        y.rob(2, 1, 0);
        y.swap(0, 3);
        y.offer(1, 1000);
        Check.refused("16: argument ahead of state", x, Check.ARGUMENT, () -> x.swap(0, 0));
        Check.refused("17: argument ahead of state", x, Check.ARGUMENT, () -> x.offer(0, 1));
    }

    private static void refusedAll(String why, Hexstead x) {
        Check.refused("16: " + why, x, Check.STATE, () -> x.swap(0, 2));
        Check.refused("17: " + why, x, Check.STATE, () -> x.offer(1, 100));
        Check.refused("18: " + why, x, Check.STATE, () -> x.counter(1, 100, 1));
        Check.refused("19: " + why, x, Check.STATE, () -> x.accept(1));
        Check.refused("20: " + why, x, Check.STATE, () -> x.agree(1));
    }
}
