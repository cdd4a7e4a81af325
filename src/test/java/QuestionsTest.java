/** Promises 20 to 43: questions. */
public final class QuestionsTest extends Shorthand {
    public static void main(String[] args) {
        booksAndOrders();
        waysAndAuctions();
        contracts();
        trades();
        positionsAndCash();
        fundsFollowTheMark();
        marginByScenarios();
        needByChoices();
        needOfSpreads();
        sharesAndLosses();
        wrongIndices();
        questionsChangeNothing();
        Checks.end("QuestionsTest");
    }

    private static void booksAndOrders() {
        BookExchange x = Setups.open();
        due("p20 OPEN", x.phase(4), BookExchange.OPEN);
        x.call(4);
        due("p20 CALL", x.phase(4), BookExchange.CALL);
        x.shut(4);
        due("p20 SHUT", x.phase(4), BookExchange.SHUT);
        x.setBand(0, 100, 0);
        Setups.trade(x, 0, 1, 0, 101, 1);
        due("p20 HALTED", x.phase(0), BookExchange.HALTED);
        due("p21 orders", x.orders(), 2);
        int stop = x.stop(0, 1, true, 90, 8, 130);
        int rest = x.order(0, 1, true, 90, 8, 3);
        int now = x.now(1, 1, false, 90, 2);
        int more = x.now(1, 1, false, 90, 2);
        due("p21 orders then", x.orders(), 6);
        due("p22 WAITING", x.state(stop), BookExchange.WAITING);
        due("p22 RESTING", x.state(rest), BookExchange.RESTING);
        due("p22 DONE", x.state(now), BookExchange.DONE);
        due("p23 left of a WAITING one", x.left(stop), 8);
        due("p23 of a RESTING one", x.left(rest), 4);
        due("p23 of a DONE one", x.left(more), 0);
        due("p24 shows: 3 anew, and 1 of them traded", x.shows(rest), 2);
        due("p24 a WAITING one nothing", x.shows(stop), 0);
        due("p24 a DONE one nothing", x.shows(more), 0);
        x.cancel(rest);
        due("p22 CANCELLED", x.state(rest), BookExchange.CANCELLED);
        due("p23 of a CANCELLED one", x.left(rest), 4);
        due("p24 a CANCELLED one nothing", x.shows(rest), 0);
        due("p25 none", x.best(1, true), BookExchange.NONE);
        due("p26 none", x.bestByAll(1, true), BookExchange.NONE);
        x.call(1);
        int low = x.order(0, 1, false, 100, 1, 1);
        int high = x.order(0, 1, false, 101, 1, 1);
        int buy = x.order(1, 1, true, 300, 1, 1);
        due("p25 to sell, in a CALL", x.best(1, false), low);
        due("p26 to sell, in a CALL", x.bestByAll(1, false), low);
        due("p25 to buy", x.best(1, true), buy);
        due("p26 to buy", x.bestByAll(1, true), buy);
        x.cancel(low);
        due("p25 then", x.best(1, false), high);
        due("p26 then", x.bestByAll(1, false), high);
        due("p25 of another book", x.best(2, false), BookExchange.NONE);
    }

    private static void waysAndAuctions() {
        BookExchange x = Setups.open();
        for (int book = 0; book < 5; book++) {
            due("p27 no way", x.way(book, true), BookExchange.NONE);
            due("p28 no price", x.wayPrice(book, false), BookExchange.NO_PRICE);
            due("p29 no auction", x.auction(book), BookExchange.NO_PRICE);
        }
        x.order(0, 2, false, 120, 1, 1);
        due("p27 way 0", x.way(2, true), 0);
        due("p28 its price", x.wayPrice(2, true), 120);
        due("p27 not to sell", x.way(2, false), BookExchange.NONE);
        due("p29 one side alone is none", x.auction(2), BookExchange.NO_PRICE);
        x.shut(2);
        x.call(2);
        x.order(1, 2, true, 119, 1, 1);
        due("p29 what does not cross is none", x.auction(2), BookExchange.NO_PRICE);
        x.order(1, 2, true, 120, 1, 1);
        due("p29 in a CALL", x.auction(2), 120);
        x.shut(2);
        due("p29 SHUT", x.auction(2), 120);
        x.call(3);
        x.order(0, 3, true, 5, 2, 1);
        x.order(1, 3, false, -7, 2, 1);
        due("p29 of a spread nearest to 0", x.auction(3), 5);
        x.order(0, 3, true, -7, 1, 1);
        due("p29 all that is left counts: the least gap", x.auction(3), 5);
    }

    private static void contracts() {
        BookExchange x = Setups.open();
        due("p30 mark at first", x.mark(2), 100);
        due("p31 middle at first", x.middle(2), 100);
        Setups.trade(x, 0, 1, 2, 130, 1);
        due("p30 mark", x.mark(2), 130);
        due("p31 trades don't move the middle", x.middle(2), 100);
        x.setBand(2, 77, 9);
        due("p31 setBand does", x.middle(2), 77);
        due("p30 but not the mark", x.mark(2), 130);
        due("p31 of another one", x.middle(1), 100);
    }

    private static void trades() {
        BookExchange x = Setups.open();
        due("p32 none", x.trades(), 0);
        throwsIt("p33 no such trade, and no such figure", INDEX, () -> x.trade(0, 6));
        Setups.trade(x, 3, 5, 1, 44, 7);
        due("p32 one", x.trades(), 1);
        dueTrade(x, 0, 1, 3, 5, 44, 7);
        throwsIt("p33 figure 6", ARGUMENT, () -> x.trade(0, 6));
        throwsIt("p33 figure -1", ARGUMENT, () -> x.trade(0, -1));
        throwsIt("p33 trade 1", INDEX, () -> x.trade(1, 0));
        throwsIt("p33 trade -1", INDEX, () -> x.trade(-1, 0));
        x.order(3, 1, true, 50, 2, 2);
        x.order(5, 1, false, 45, 2, 2);
        dueTrade(x, 1, 1, 3, 5, 50, 2);
    }

    private static void positionsAndCash() {
        BookExchange x = Setups.open();
        Setups.trade(x, 0, 1, 0, 110, 4);
        Setups.trade(x, 2, 0, 0, 120, 1);
        Setups.trade(x, 1, 0, 2, 50, 2);
        due("p34 bought and sold", x.position(0, 0), 3);
        due("p35 bought and sold", x.positionByTrades(0, 0), 3);
        due("p34 sold", x.position(0, 2), -2);
        due("p35 sold", x.positionByTrades(0, 2), -2);
        due("p34 nothing", x.position(0, 1), 0);
        due("p36 cash", x.cash(0), -440 + 120 + 100);
        due("p36 of another one", x.cash(1), 440 - 100);
        x.bust(1);
        due("p35 a busted one does not count", x.positionByTrades(0, 0), 4);
        due("p34 nor here", x.position(0, 0), 4);
    }

    private static void fundsFollowTheMark() {
        BookExchange x = Setups.open();
        Setups.trade(x, 0, 1, 1, 100, 10);
        due("p37 at the mark", x.funds(0), 1000000);
        Setups.trade(x, 2, 3, 1, 93, 1);
        due("p37 a loss", x.funds(0), 1000000 - 70);
        due("p37 a gain", x.funds(1), 1000000 + 70);
        x.bust(1);
        due("p37 a bust leaves the mark", x.funds(0), 1000000 - 70);
        x.bust(0);
        due("p37 but not the position", x.funds(0), 1000000);
    }

    private static void marginByScenarios() {
        BookExchange x = Setups.open();
        Setups.trade(x, 0, 1, 0, 100, 3);
        Setups.trade(x, 1, 0, 1, 100, 2);
        due("p38 without moves", x.margin(0), 0);
        x.setMove(0, 0, -10);
        x.setMove(0, 1, -20);
        due("p38 a gain is at least 0", x.margin(0), 0);
        due("p38 the other side's loss", x.margin(1), 10);
        x.setMove(5, 0, 1);
        x.setMove(5, 1, 7);
        due("p38 the greatest one: 2 times 7 less 3", x.margin(0), 11);
        x.setMove(3, 1, 5);
        due("p38 a lesser one does not matter", x.margin(0), 11);
        x.setMove(3, 2, 500);
        due("p38 nor what it has nothing of", x.margin(0), 11);
        x.order(0, 0, true, 50, 100, 100);
        due("p38 nor orders", x.margin(0), 11);
    }

    private static void needByChoices() {
        BookExchange x = Setups.open();
        x.setMove(0, 0, -3);
        x.setMove(1, 0, 4);
        Setups.trade(x, 0, 1, 0, 100, 10);
        due("p39 of positions alone", x.need(0), 30);
        x.order(0, 0, true, 50, 5, 1);
        due("p39 and all that could be bought", x.need(0), 45);
        x.order(0, 0, false, 150, 20, 20);
        due("p39 not what could be sold: 40", x.need(0), 45);
        x.stop(0, 0, false, 150, 2, 50);
        due("p39 WAITING ones too: 48", x.need(0), 48);
        due("p39 margin", x.margin(0), 30);
        x.order(0, 1, true, 50, 100, 100);
        due("p39 what moves nowhere", x.need(0), 48);
        x.setMove(1, 1, -1);
        due("p39 one side of each contract", x.need(0), 148);
        x.setMove(0, 1, -1);
        due("p39 in each scenario", x.need(0), 148);
        x.setMove(0, 1, -2);
        due("p39 the greatest one", x.need(0), 245);
        x.now(1, 0, false, 50, 4);
        due("p39 what was bought stays as much", x.need(0), 245);
        due("p39 another member", x.need(2), 0);
    }

    private static void needOfSpreads() {
        BookExchange x = Setups.open();
        x.setMove(0, 1, -2);
        x.setMove(1, 1, 3);
        x.order(0, 3, true, 1, 10, 10);
        due("p39 to buy the spread 0 sells 1", x.need(0), 30);
        x.order(0, 4, true, 1, 4, 4);
        due("p39 to buy the spread 1 buys 1, the other choice", x.need(0), 30);
        x.order(0, 4, false, 99, 1, 1);
        due("p39 to sell it sells 1", x.need(0), 33);
        x.cancel(0);
        due("p39 then", x.need(0), 8);
        x.order(0, 3, false, 99, 1, 1);
        due("p39 to sell the spread 0 buys 1", x.need(0), 10);
        x.setMove(2, 0, 5);
        x.setMove(2, 2, -7);
        due("p39 it sells 0, and to sell the spread 1 buys 2", x.need(0), 12);
        x.setMove(3, 2, 7);
        due("p39 to buy the spread 1 sells 2", x.need(0), 28);
    }

    private static void sharesAndLosses() {
        BookExchange x = Setups.open();
        due("p40 none", x.share(0), 0);
        x.setShare(0, 12);
        due("p40 share", x.share(0), 12);
        due("p41 not OUT", x.isOut(0), false);
        due("p42 none", x.capital(), 0);
        x.setCapital(9);
        due("p42 capital", x.capital(), 9);
        x.deposit(0, -1000000);
        Setups.trade(x, 0, 1, 0, 100, 1);
        Setups.trade(x, 2, 3, 0, 70, 1);
        x.setShare(4, 5);
        due("p43 nothing", x.uncovered(), 0);
        x.fail(0);
        due("p40 0 when it is OUT", x.share(0), 0);
        due("p41 OUT", x.isOut(0), true);
        due("p42 taken", x.capital(), 0);
        due("p40 taken", x.share(4), 0);
        due("p43 30 less 12, 9 and 5", x.uncovered(), 4);
    }

    private static void wrongIndices() {
        BookExchange x = Setups.open();
        for (int side = 0; side < 2; side++) {
            boolean isBuy = side == 0;
            for (int k = 0; k < 2; k++) {
                int book = k == 0 ? -1 : 5;
                throwsIt("p25", INDEX, () -> x.best(book, isBuy));
                throwsIt("p26", INDEX, () -> x.bestByAll(book, isBuy));
                throwsIt("p27", INDEX, () -> x.way(book, isBuy));
                throwsIt("p28", INDEX, () -> x.wayPrice(book, isBuy));
            }
        }
        int[] wrong = {-1, Integer.MIN_VALUE, Integer.MAX_VALUE, 6};
        for (int at : wrong) {
            throwsIt("p20", INDEX, () -> x.phase(at));
            throwsIt("p22", INDEX, () -> x.state(at));
            throwsIt("p23", INDEX, () -> x.left(at));
            throwsIt("p24", INDEX, () -> x.shows(at));
            throwsIt("p29", INDEX, () -> x.auction(at));
            throwsIt("p30", INDEX, () -> x.mark(at));
            throwsIt("p31", INDEX, () -> x.middle(at));
            throwsIt("p33", INDEX, () -> x.trade(at, 0));
            throwsIt("p34", INDEX, () -> x.position(at, 0));
            throwsIt("p34 contract", INDEX, () -> x.position(0, at));
            throwsIt("p35", INDEX, () -> x.positionByTrades(at, 0));
            throwsIt("p35 contract", INDEX, () -> x.positionByTrades(0, at));
            throwsIt("p36", INDEX, () -> x.cash(at));
            throwsIt("p37", INDEX, () -> x.funds(at));
            throwsIt("p38", INDEX, () -> x.margin(at));
            throwsIt("p39", INDEX, () -> x.need(at));
            throwsIt("p40", INDEX, () -> x.share(at));
            throwsIt("p41", INDEX, () -> x.isOut(at) ? 1 : 0);
        }
        throwsIt("p20 book 5", INDEX, () -> x.phase(5));
        throwsIt("p29 book 5", INDEX, () -> x.auction(5));
        throwsIt("p30 contract 3", INDEX, () -> x.mark(3));
        throwsIt("p31 contract 3", INDEX, () -> x.middle(3));
        throwsIt("p34 contract 3", INDEX, () -> x.position(0, 3));
        throwsIt("p22 order 0", INDEX, () -> x.state(0));
        int[] wild = {Integer.MIN_VALUE, Integer.MAX_VALUE};
        for (int at : wild) {
            throwsIt("p7 wild", ARGUMENT, () -> x.deposit(0, at));
            throwsIt("p8 wild", ARGUMENT, () -> x.setShare(0, at));
            throwsIt("p9 wild", ARGUMENT, () -> x.setCapital(at));
            throwsIt("p10 wild", ARGUMENT, () -> x.protect(0, at));
            throwsIt("p11 wild", ARGUMENT, () -> x.setMove(0, 0, at));
            throwsIt("p12 wild price", ARGUMENT, () -> x.order(0, 0, true, at, 1, 1));
            throwsIt("p12 wild size", ARGUMENT, () -> x.order(0, 0, true, 1, at, 1));
            throwsIt("p12 wild peak", ARGUMENT, () -> x.order(0, 0, true, 1, 1, at));
            throwsIt("p13 wild", ARGUMENT, () -> x.now(0, 0, true, at, at));
            throwsIt("p14 wild", ARGUMENT, () -> x.stop(0, 0, true, 1, 1, at));
            throwsIt("p15 wild bid", ARGUMENT, () -> x.quote(0, 0, at, 5, 1));
            throwsIt("p15 wild ask", ARGUMENT, () -> x.quote(0, 0, 5, at, 1));
            throwsIt("p18 wild", ARGUMENT, () -> x.bid(0, at));
        }
    }

    private static void questionsChangeNothing() {
        BookExchange x = Setups.open();
        x.order(0, 3, false, 7, 5, 2);
        x.order(1, 1, false, 90, 4, 4);
        x.quote(2, 0, 95, 99, 4);
        x.now(3, 0, true, 97, 3);
        x.stop(3, 0, true, 97, 3, 100);
        String first = Setups.all(x);
        String second = Setups.all(x);
        due("questions change nothing", first.equals(second), true);
    }
}
