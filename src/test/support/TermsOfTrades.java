/** The Terms' "Trades" and "Triggers", sentence by sentence. */
final class TermsOfTrades extends Shorthand {
    private TermsOfTrades() {
    }

    static void all() {
        trades();
        tradesByWays();
        tradesOfSpreads();
        positionsAndCash();
        marksAndBooks();
        triggers();
        whenTheyCome();
    }

    private static void trades() {
        Sentences.part("### Trades");
        Sentences.says("A trade is of a contract, between a buyer and a seller, with a price and a size;", () -> {
            BookExchange x = Setups.open();
            Setups.trade(x, 5, 2, 1, 77, 100);
            dueTrade(x, 0, 1, 5, 2, 77, 100);
        });
        Sentences.says("trades are numbered from 0 as they are made.", () -> {
            BookExchange x = Setups.open();
            throwsIt("none yet", INDEX, () -> x.trade(0, BookExchange.SIZE));
            for (int i = 0; i < 3; i++) {
                Setups.trade(x, 0, 1, i, 100, i + 1);
                due("trade " + i, x.trade(i, BookExchange.SIZE), i + 1);
                due("so many", x.trades(), i + 1);
            }
            x.bust(0);
            Setups.trade(x, 0, 1, 0, 100, 9);
            due("a busted one keeps its number", x.trade(3, BookExchange.SIZE), 9);
            throwsIt("no more", INDEX, () -> x.trade(4, BookExchange.SIZE));
        });
        Sentences.says("By the way 0 of a contract the order that comes trades with the other one at the price of that.", () -> {
            BookExchange x = Setups.open();
            sells(x, 1, 0, 100, 1);
            x.now(2, 0, true, 999, 1);
            dueTrade(x, 0, 0, 2, 1, 100, 1);
            buys(x, 1, 0, 100, 1);
            x.now(2, 0, false, 1, 1);
            dueTrade(x, 1, 0, 1, 2, 100, 1);
        });
    }

    private static void tradesByWays() {
        Sentences.says("By another way of a contract: the order that comes trades its contract with the member of the first order taken, at the price of the way.", () -> {
            BookExchange x = Setups.open();
            sells(x, 1, 3, 7, 1);
            sells(x, 2, 1, 90, 1);
            x.now(3, 0, true, 200, 1);
            dueTrade(x, 0, 0, 3, 1, 97, 1);
            BookExchange y = Setups.open();
            buys(y, 1, 3, 20, 1);
            sells(y, 2, 0, 104, 1);
            y.now(3, 1, true, 200, 1);
            dueTrade(y, 0, 1, 3, 1, 84, 1);
            BookExchange z = Setups.open();
            sells(z, 1, 4, -20, 1);
            buys(z, 2, 1, 104, 1);
            z.now(3, 2, false, 1, 1);
            dueTrade(z, 0, 2, 1, 3, 124, 1);
        });
        Sentences.says("Then the member of each order of a spread trades the other contract of that spread with the member of the next order taken, the other way round (it buys that one, if it sold the one before),", () -> {
            BookExchange x = Setups.open();
            sells(x, 1, 3, 7, 2);
            sells(x, 2, 4, 3, 2);
            sells(x, 3, 2, 80, 2);
            x.now(4, 0, true, 90, 2);
            dueTrade(x, 0, 0, 4, 1, 90, 2);
            dueTrade(x, 1, 1, 1, 2, 83, 2);
            dueTrade(x, 2, 2, 2, 3, 80, 2);
            due("no more", x.trades(), 3);
            due("the spread's member sold its first, bought its second", x.position(1, 0) * 10 + x.position(1, 1), -18);
            BookExchange y = Setups.open();
            buys(y, 1, 3, 7, 2);
            buys(y, 2, 4, 3, 2);
            buys(y, 3, 2, 80, 2);
            y.now(4, 0, false, 90, 2);
            dueTrade(y, 0, 0, 1, 4, 90, 2);
            dueTrade(y, 1, 1, 2, 1, 83, 2);
            dueTrade(y, 2, 2, 3, 2, 80, 2);
            BookExchange z = Setups.open();
            sells(z, 1, 4, 3, 2);
            sells(z, 2, 3, 7, 2);
            buys(z, 3, 0, 100, 2);
            z.now(4, 2, false, 90, 2);
            dueTrade(z, 0, 2, 1, 4, 90, 2);
            dueTrade(z, 1, 1, 2, 1, 93, 2);
            dueTrade(z, 2, 0, 3, 2, 100, 2);
        });
        Sentences.says("at the price that leaves the price of the first contract of the spread less that of the second one what the order of the spread tells.", () -> {
            int[] spreads = {-500, -1, 0, 1, 500};
            for (int spread : spreads) {
                BookExchange x = Setups.open();
                sells(x, 1, 3, spread, 1);
                sells(x, 2, 1, 300, 1);
                x.now(3, 0, true, 999, 1);
                due("from the first one", x.trade(0, BookExchange.PRICE) - x.trade(1, BookExchange.PRICE), spread);
                due("the second one is as its order tells", x.trade(1, BookExchange.PRICE), 300);
                BookExchange y = Setups.open();
                buys(y, 1, 3, spread, 1);
                sells(y, 2, 0, 300, 1);
                y.now(3, 1, true, 999, 1);
                due("from the second one", y.trade(1, BookExchange.PRICE) - y.trade(0, BookExchange.PRICE), spread);
                due("the first one is as its order tells", y.trade(1, BookExchange.PRICE), 300);
            }
        });
    }

    private static void tradesOfSpreads() {
        Sentences.says("By the way 0 of a spread: the order that comes trades the second contract with the member of the other one, at the mark of that contract, and then the first one, at this mark and the price of the spread, together.", () -> {
            BookExchange x = Setups.open();
            Setups.trade(x, 1, 2, 1, 70, 1);
            sells(x, 3, 3, -80, 2);
            x.now(4, 3, true, -80, 2);
            dueTrade(x, 1, 1, 3, 4, 70, 2);
            dueTrade(x, 2, 0, 4, 3, -10, 2);
            buys(x, 3, 3, 500, 2);
            x.now(4, 3, false, 1, 2);
            dueTrade(x, 3, 1, 4, 3, 70, 2);
            dueTrade(x, 4, 0, 3, 4, 570, 2);
            sells(x, 3, 4, 0, 2);
            x.now(4, 4, true, 1, 2);
            dueTrade(x, 5, 2, 3, 4, 100, 2);
            dueTrade(x, 6, 1, 4, 3, 100, 2);
        });
        Sentences.says("By the way 1 of a spread: the order that comes trades the first contract with the first order taken, then the second contract with the second one, each at the price of that.", () -> {
            BookExchange x = Setups.open();
            sells(x, 1, 0, 105, 2);
            buys(x, 2, 1, 95, 2);
            x.now(3, 3, true, 20, 2);
            dueTrade(x, 0, 0, 3, 1, 105, 2);
            dueTrade(x, 1, 1, 2, 3, 95, 2);
            BookExchange y = Setups.open();
            buys(y, 1, 1, 105, 2);
            sells(y, 2, 2, 95, 2);
            y.now(3, 4, false, 0, 2);
            dueTrade(y, 0, 1, 1, 3, 105, 2);
            dueTrade(y, 1, 2, 3, 2, 95, 2);
            due("no more", x.trades() + y.trades(), 4);
        });
    }

    private static void positionsAndCash() {
        Sentences.says("A trade adds its size to the position of the buyer, and takes it from that of the seller;", () -> {
            BookExchange x = Setups.open();
            Setups.trade(x, 0, 1, 2, 100, 100);
            Setups.trade(x, 0, 1, 2, 100, 1);
            due("the buyer", x.position(0, 2), 101);
            due("the seller", x.position(1, 2), -101);
            due("other contracts", x.position(0, 0) + x.position(0, 1), 0);
            Setups.trade(x, 1, 0, 2, 100, 100);
            Setups.trade(x, 1, 0, 2, 100, 2);
            due("through 0", x.position(0, 2), -1);
            due("the other one", x.position(1, 2), 1);
            x.call(2);
            buys(x, 3, 2, 100, 5);
            sells(x, 3, 2, 100, 5);
            x.uncross(2);
            due("one's own trade", x.position(3, 2), 0);
        });
        Sentences.says("it takes its price times its size from the cash of the buyer, and adds it to that of the seller.", () -> {
            BookExchange x = Setups.open();
            Setups.trade(x, 0, 1, 2, 999, 100);
            due("the buyer", x.cash(0), -99900);
            due("the seller", x.cash(1), 99900);
            Setups.trade(x, 0, 1, 2, 1, 1);
            due("once more", x.cash(0), -99901);
            BookExchange y = Setups.open();
            sells(y, 1, 3, -500, 2);
            sells(y, 2, 1, 100, 2);
            y.now(0, 0, true, 1, 2);
            due("the buyer at a price below 0", y.cash(0), 800);
            due("the seller of it, who bought the other one at 100", y.cash(1), -800 - 200);
            BookExchange z = Setups.open();
            sells(z, 1, 3, -100, 2);
            z.now(0, 3, true, 1, 2);
            due("at a price of 0, and at 100", z.cash(0), 200);
        });
    }

    private static void marksAndBooks() {
        Sentences.says("The mark of a contract becomes the price of each trade of it, but for those by the way 0 of a spread.", () -> {
            BookExchange x = Setups.open();
            Setups.trade(x, 0, 1, 0, 101, 1);
            due("by the way 0", x.mark(0), 101);
            sells(x, 1, 3, 7, 1);
            sells(x, 2, 4, 3, 1);
            sells(x, 3, 2, 80, 1);
            x.now(4, 0, true, 90, 1);
            due("by the way 2, all three", x.mark(0) * 1000000 + x.mark(1) * 1000 + x.mark(2), 90083080);
            sells(x, 1, 1, 60, 1);
            buys(x, 2, 2, 50, 1);
            x.now(3, 4, true, 20, 1);
            due("by the way 1 of a spread, both", x.mark(1) * 1000 + x.mark(2), 60050);
            sells(x, 1, 4, 33, 1);
            x.now(2, 4, true, 33, 1);
            due("not by its way 0", x.mark(1) * 1000 + x.mark(2), 60050);
            x.order(1, 0, false, 70, 1, 1);
            x.order(1, 0, false, 71, 1, 1);
            x.now(2, 0, true, 71, 2);
            due("the last one of several", x.mark(0), 71);
        });
        Sentences.says("In a step the book of the order that comes trades at the price of the way, and the book of each order taken at the price of that.", () -> {
            int[] prices = {97, 90, 0, 7};
            for (int b = 0; b < 4; b++) {
                if (b != 2) {
                    due("at " + prices[b] + " to buy", reachedBySteps(b, true, prices[b]), BookExchange.RESTING);
                    due("not at more", reachedBySteps(b, true, prices[b] + 1), BookExchange.WAITING);
                    due("at " + prices[b] + " to sell", reachedBySteps(b, false, prices[b]), BookExchange.RESTING);
                    due("not at less", reachedBySteps(b, false, prices[b] - 1), BookExchange.WAITING);
                }
            }
            due("a book of no order does not trade", reachedBySteps(2, true, 1), BookExchange.WAITING);
            BookExchange x = Setups.open();
            int first = x.stop(5, 0, true, 1, 1, 1), second = x.stop(5, 1, true, 1, 1, 1);
            sells(x, 1, 3, 5, 1);
            x.now(2, 3, true, 5, 1);
            due("nor do those of the contracts of a spread by its way 0", x.state(first) + x.state(second), 0);
            BookExchange y = Setups.open();
            int between = y.stop(5, 1, true, 1, 1, 1);
            sells(y, 1, 3, 5, 1);
            sells(y, 1, 4, 5, 1);
            sells(y, 1, 2, 80, 1);
            y.now(2, 0, true, 90, 1);
            due("nor does a book between", y.trades() * 10 + y.state(between), 30);
        });
    }

    /** What becomes of a stop when the book 0 trades at 97 by the way 1, with 3 at 7 and 1 at 90. */
    private static int reachedBySteps(int book, boolean isBuy, int trigger) {
        BookExchange x = Setups.open();
        int least = book < 3 ? 1 : -500, most = book < 3 ? 999 : 500;
        int stop = x.stop(5, book, isBuy, isBuy ? least : most, 1, trigger);
        sells(x, 1, 3, 7, 1);
        sells(x, 2, 1, 90, 1);
        x.now(4, 0, true, 200, 1);
        due("the way 1 has traded", x.trades(), 2);
        return x.state(stop);
    }

    private static void triggers() {
        Sentences.part("### Triggers");
        Sentences.says("The trigger of a WAITING order is reached when its book trades at a price that is the trigger or more, if it buys, the trigger or less, if it sells.", () -> {
            for (int b = 0; b < 5; b++) {
                int at = b < 3 ? 100 : -5;
                int waits = BookExchange.WAITING, rests = BookExchange.RESTING;
                due("to buy, 1 below", reachedAt(b, true, at, at - 1), waits);
                due("to buy, at it", reachedAt(b, true, at, at), rests);
                due("to buy, 1 above", reachedAt(b, true, at, at + 1), rests);
                due("to sell, 1 above", reachedAt(b, false, at, at + 1), waits);
                due("to sell, at it", reachedAt(b, false, at, at), rests);
                due("to sell, 1 below", reachedAt(b, false, at, at - 1), rests);
            }
            due("the greatest price", reachedAt(0, true, 999, 999), BookExchange.RESTING);
            due("the least price", reachedAt(0, false, 1, 1), BookExchange.RESTING);
            BookExchange x = Setups.open();
            Setups.trade(x, 1, 2, 0, 120, 1);
            int stop = x.stop(5, 0, true, 1, 1, 110);
            due("not by what traded before", x.state(stop), BookExchange.WAITING);
            Setups.trade(x, 1, 2, 1, 120, 1);
            due("nor by another book", x.state(stop), BookExchange.WAITING);
            buys(x, 1, 0, 120, 1);
            due("nor by an order without a trade", x.state(stop), BookExchange.WAITING);
            x.cancel(stop);
            x.now(2, 0, false, 120, 1);
            due("one that is CANCELLED is not WAITING", x.state(stop), BookExchange.CANCELLED);
        });
    }

    private static int reachedAt(int book, boolean isBuy, int trigger, int price) {
        BookExchange x = Setups.open();
        int least = book < 3 ? 1 : -500, most = book < 3 ? 999 : 500;
        int stop = x.stop(5, book, isBuy, isBuy ? least : most, 1, trigger);
        sells(x, 1, book, price, 1);
        x.now(2, book, true, price, 1);
        return x.state(stop);
    }

    private static void whenTheyCome() {
        Sentences.says("When an order has come, be it matched or not, or a book was uncrossed, then,", () -> {
            BookExchange x = Setups.open();
            int stop = x.stop(5, 0, false, 100, 5, 100);
            sells(x, 1, 0, 100, 2);
            int order = buys(x, 2, 0, 100, 6);
            due("the order rests first, and the other trades with it", x.trades(), 2);
            due("nothing is left of the 6", x.left(order), 0);
            due("1 is left of the 5", x.left(stop), 1);
            BookExchange y = Setups.open();
            stop = y.stop(5, 0, true, 105, 1, 100);
            y.call(0);
            sells(y, 1, 0, 100, 2);
            buys(y, 2, 0, 100, 1);
            due("in the CALL it waits", y.state(stop), BookExchange.WAITING);
            y.uncross(0);
            due("then it comes, into an OPEN book", y.state(stop), BookExchange.DONE);
            dueTrade(y, 1, 0, 5, 1, 100, 1);
        });
        Sentences.says("as long as there are WAITING orders whose triggers were reached,", () -> {
            BookExchange x = Setups.open();
            for (int i = 0; i < 5; i++) {
                x.stop(5, 0, true, 110 + i + 1, 1, 110 + i);
                sells(x, 1, 0, 110 + i, 1);
            }
            sells(x, 1, 0, 115, 1);
            x.now(2, 0, true, 110, 1);
            due("each one reaches the next one's", x.trades(), 6);
            due("the last one", x.state(8), BookExchange.DONE);
            BookExchange y = Setups.open();
            y.stop(5, 0, true, 90, 1, 110);
            y.stop(5, 0, true, 90, 1, 111);
            y.stop(5, 0, true, 90, 1, 110);
            Setups.trade(y, 1, 2, 0, 110, 1);
            due("all that were reached, no other", y.state(0) * 100 + y.state(1) * 10 + y.state(2), 101);
        });
        Sentences.says("the lowest one comes,", () -> {
            BookExchange x = Setups.open();
            int lowest = x.stop(5, 0, true, 103, 1, 102);
            int a = x.stop(4, 0, true, 102, 1, 101);
            int b = x.stop(3, 0, true, 104, 1, 101);
            for (int price = 101; price < 105; price++) {
                sells(x, 1, 0, price, 1);
            }
            x.now(2, 0, true, 101, 1);
            // The order a trades at 102, which reaches the lowest one: that comes ahead of b.
            dueTrade(x, 1, 0, 4, 1, 102, 1);
            dueTrade(x, 2, 0, 5, 1, 103, 1);
            dueTrade(x, 3, 0, 3, 1, 104, 1);
            due("all are DONE", x.state(lowest) + x.state(a) + x.state(b), 3 * BookExchange.DONE);
        });
        Sentences.says("as an order at its price;", () -> {
            BookExchange x = Setups.open();
            int stop = x.stop(5, 0, true, 104, 3, 100);
            sells(x, 1, 0, 100, 1);
            sells(x, 1, 0, 104, 1);
            sells(x, 1, 0, 105, 1);
            x.now(2, 0, true, 100, 1);
            dueTrade(x, 1, 0, 5, 1, 104, 1);
            due("no worse than its price", x.trades(), 2);
            due("the rest rests", x.state(stop) * 10 + x.left(stop), 12);
            due("it shows all that is left", x.shows(stop), 2);
            due("at its price", x.wayPrice(0, false), 104);
        });
        Sentences.says("in a book that is not OPEN it comes to rest.", () -> {
            BookExchange x = Setups.open();
            x.setBand(0, 100, 0);
            int halting = x.stop(5, 0, true, 105, 1, 100), behind = x.stop(4, 0, true, 105, 1, 100);
            sells(x, 1, 0, 100, 1);
            sells(x, 1, 0, 105, 1);
            x.now(2, 0, true, 100, 1);
            due("the first one halts the book", x.phase(0), BookExchange.HALTED);
            x.setBand(0, 100, 999);
            due("and rests", x.state(halting), BookExchange.RESTING);
            due("the one behind it rests, crossing", x.state(behind) * 10 + x.trades(), 11);
            BookExchange y = Setups.open();
            int stop = y.stop(5, 1, true, 300, 1, 90);
            sells(y, 1, 3, 10, 2);
            sells(y, 2, 1, 90, 1);
            sells(y, 2, 1, 200, 1);
            y.setBand(1, 90, 0);
            y.now(3, 0, true, 999, 2);
            due("a book that was HALTED as a leg", y.phase(1), BookExchange.HALTED);
            due("its stop rests without a match", y.state(stop) * 10 + y.trades(), 12);
        });
    }
}
