/** Promises 12 to 16: orders. */
public final class OrdersTest extends Shorthand {
    public static void main(String[] args) {
        orderArguments();
        orderInBooks();
        orderRefused();
        stamps();
        ownOrders();
        nowOrders();
        stopArguments();
        triggers();
        triggersOneBehindTheOther();
        triggersOfHaltedBooks();
        triggersByOtherBooks();
        quoteArguments();
        quoteReplaces();
        quoteRefused();
        quotePulled();
        quotePulledBetweenItsOrders();
        quotePulledAheadOfTriggers();
        cancel();
        atMost200Orders();
        Checks.end("OrdersTest");
    }

    private static void orderArguments() {
        BookExchange x = Setups.open();
        String before = Setups.all(x);
        throwsIt("p12 member 6", INDEX, () -> x.order(6, 0, true, 0, 1, 1));
        throwsIt("p12 member -1", INDEX, () -> x.order(-1, 0, true, 1, 1, 1));
        throwsIt("p12 book 5", INDEX, () -> x.order(0, 5, true, 1, 0, 1));
        throwsIt("p12 book -1", INDEX, () -> x.order(0, -1, true, 1, 1, 1));
        throwsIt("p12 price 0", ARGUMENT, () -> x.order(0, 2, true, 0, 1, 1));
        throwsIt("p12 price 1000", ARGUMENT, () -> x.order(0, 2, true, 1000, 1, 1));
        throwsIt("p12 price -501", ARGUMENT, () -> x.order(0, 3, true, -501, 1, 1));
        throwsIt("p12 price 501", ARGUMENT, () -> x.order(0, 4, true, 501, 1, 1));
        throwsIt("p12 size 0", ARGUMENT, () -> x.order(0, 0, true, 1, 0, 1));
        throwsIt("p12 size 101", ARGUMENT, () -> x.order(0, 0, true, 1, 101, 1));
        throwsIt("p12 peak 0", ARGUMENT, () -> x.order(0, 0, true, 1, 5, 0));
        throwsIt("p12 peak above size", ARGUMENT, () -> x.order(0, 0, true, 1, 5, 6));
        x.shut(0);
        throwsIt("p12 SHUT", STATE, () -> x.order(0, 0, true, 1, 1, 1));
        throwsIt("p12 SHUT, and a wrong peak", ARGUMENT, () -> x.order(0, 0, true, 1, 1, 2));
        x.call(0);
        x.uncross(0);
        due("p12 what throws changes nothing", Setups.all(x).equals(before), true);
        due("p12 price 999, size 100", x.order(0, 0, true, 999, 100, 100), 0);
        due("p12 price 1", x.order(0, 1, true, 1, 100, 1), 1);
        due("p12 price -500", x.order(0, 3, true, -500, 1, 1), 2);
        due("p12 price 500", x.order(0, 4, false, 500, 1, 1), 3);
    }

    private static void orderInBooks() {
        BookExchange x = Setups.open();
        x.call(1);
        due("p12 in a CALL", x.order(0, 1, true, 105, 9, 4), 0);
        due("p12 it rests", x.state(0), BookExchange.RESTING);
        due("p12 it shows its peak", x.shows(0), 4);
        x.order(1, 1, false, 100, 2, 2);
        due("p12 without a match", x.left(0), 9);
        x.order(2, 0, false, 100, 5, 2);
        x.order(3, 0, true, 101, 9, 4);
        due("p12 in an OPEN book it trades", x.trades(), 3);
        dueTrade(x, 0, 0, 3, 2, 100, 2);
        dueTrade(x, 2, 0, 3, 2, 100, 1);
        due("p12 and what is left", x.left(3), 4);
        due("p12 rests", x.state(3), BookExchange.RESTING);
        due("p12 and shows", x.shows(3), 4);
        due("p12 the other one is DONE", x.state(2), BookExchange.DONE);
        x.order(4, 0, false, 101, 4, 4);
        due("p12 DONE when nothing is left", x.state(4), BookExchange.DONE);
        x.order(4, 0, false, 101, 4, 4);
        x.order(4, 0, true, 100, 4, 4);
        due("p12 worse prices don't trade", x.state(6), BookExchange.RESTING);
        due("p12 nor change others", x.state(5), BookExchange.RESTING);
    }

    private static void orderRefused() {
        BookExchange x = Setups.open();
        x.deposit(0, -999900);
        x.setMove(2, 0, -10);
        x.setMove(4, 0, 7);
        due("p12 a need of 100", x.order(0, 0, true, 50, 10, 1), 0);
        due("p39 need", x.need(0), 100);
        due("p12 refused", x.order(0, 0, true, 50, 1, 1), BookExchange.NONE);
        due("p13 refused", x.now(0, 0, true, 50, 1), BookExchange.NONE);
        due("p14 refused", x.stop(0, 0, true, 50, 1, 60), BookExchange.NONE);
        due("p12 a refused one has no number", x.orders(), 1);
        due("p12 to sell has its own limit", x.order(0, 0, false, 150, 14, 14), 1);
        due("p12 beyond that refused too", x.order(0, 0, false, 150, 1, 1), BookExchange.NONE);
        due("p12 a spread buys its first contract", x.order(0, 3, true, 1, 1, 1), BookExchange.NONE);
        due("p12 and sells it", x.order(0, 3, false, 1, 1, 1), BookExchange.NONE);
        due("p12 the second one moves not yet", x.order(0, 4, false, 1, 1, 1), 2);
        x.setMove(2, 1, -1);
        due("p12 of the spread sold the second one is bought", x.need(0), 100);
        due("p12 which costs", x.order(0, 1, true, 1, 1, 1), BookExchange.NONE);
        x.cancel(1);
        x.cancel(0);
        due("p12 a CANCELLED one needs nothing", x.need(0), 0);
        due("p12 so there is room", x.order(0, 0, true, 50, 10, 1), 3);
        due("p12 for so much", x.order(0, 0, true, 50, 1, 1), BookExchange.NONE);
    }

    private static void stamps() {
        BookExchange x = Setups.open();
        int hidden = x.order(0, 0, false, 100, 6, 2);
        int behind = x.order(1, 0, false, 100, 2, 2);
        due("p12 the earlier one is better", x.best(0, false), hidden);
        x.now(2, 0, true, 100, 1);
        due("p12 it shows what is not traded", x.shows(hidden), 1);
        due("p12 and keeps its stamp", x.best(0, false), hidden);
        x.now(2, 0, true, 100, 1);
        due("p12 then it shows anew", x.shows(hidden), 2);
        due("p12 behind the other one", x.best(0, false), behind);
        x.now(2, 0, true, 100, 3);
        due("p12 which trades first", x.state(behind), BookExchange.DONE);
        due("p12 the rest is traded of the first one", x.left(hidden), 3);
        int better = x.order(1, 0, false, 99, 1, 1);
        due("p12 a lesser price is better to sell", x.best(0, false), better);
        int low = x.order(3, 0, true, 50, 1, 1);
        int high = x.order(3, 0, true, 51, 1, 1);
        due("p12 a greater one to buy", x.best(0, true), high);
        x.cancel(high);
        due("p25 the next one", x.best(0, true), low);
        due("p26 by all", x.bestByAll(0, true), low);
        due("p26 by all to sell", x.bestByAll(0, false), better);
        int stamped = x.order(0, 1, true, 80, 6, 2);
        int earlier = x.order(1, 1, true, 80, 2, 2);
        due("p26 the earlier stamp", x.bestByAll(1, true), stamped);
        x.now(2, 1, false, 80, 2);
        due("p26 not the lower number", x.bestByAll(1, true), earlier);
        x.order(1, 1, true, 79, 2, 2);
        due("p26 nor the later stamp of a worse one", x.bestByAll(1, true), earlier);
        int worseSell = x.order(3, 2, false, 80, 2, 2), bestSell = x.order(3, 2, false, 79, 2, 2);
        due("p26 to sell the lesser price", x.bestByAll(2, false), bestSell);
        x.cancel(bestSell);
        x.order(3, 2, false, 81, 2, 2);
        due("p26 not the greater one", x.bestByAll(2, false), worseSell);
        int lowBuy = x.order(3, 4, true, -3, 2, 2), highBuy = x.order(3, 4, true, 2, 2, 2);
        due("p26 to buy the greater price", x.bestByAll(4, true), highBuy);
        x.cancel(highBuy);
        due("p26 or what there is", x.bestByAll(4, true), lowBuy);
    }

    private static void ownOrders() {
        BookExchange x = Setups.open();
        int own = x.order(0, 0, false, 100, 5, 5);
        int other = x.order(1, 0, false, 101, 5, 5);
        int buy = x.order(0, 0, true, 101, 7, 7);
        due("p12 one's own order is CANCELLED", x.state(own), BookExchange.CANCELLED);
        due("p12 all that was left of it", x.left(own), 5);
        due("p12 then the other one trades", x.state(other), BookExchange.DONE);
        due("p12 what is left", x.left(buy), 2);
        due("p12 a sell order worse than its own buy order", x.order(0, 0, false, 102, 1, 1), 3);
        due("p12 lets it be", x.state(buy), BookExchange.RESTING);
    }

    private static void nowOrders() {
        BookExchange x = Setups.open();
        x.order(0, 0, false, 100, 5, 5);
        due("p13 number", x.now(1, 0, true, 100, 7), 1);
        due("p13 CANCELLED", x.state(1), BookExchange.CANCELLED);
        due("p13 what is left", x.left(1), 2);
        due("p13 it shows nothing", x.shows(1), 0);
        due("p13 it does not rest", x.best(0, true), BookExchange.NONE);
        x.order(0, 0, false, 100, 5, 5);
        x.now(1, 0, true, 100, 5);
        due("p13 DONE", x.state(3), BookExchange.DONE);
        x.setBand(0, 100, 0);
        x.order(0, 0, false, 105, 5, 5);
        x.now(1, 0, true, 105, 5);
        due("p13 it halts the book", x.phase(0), BookExchange.HALTED);
        due("p13 and is CANCELLED all the same", x.state(5), BookExchange.CANCELLED);
        throwsIt("p13 HALTED", STATE, () -> x.now(1, 0, true, 105, 5));
        x.call(0);
        throwsIt("p13 in a CALL", STATE, () -> x.now(1, 0, true, 105, 5));
        throwsIt("p13 in a CALL, and a wrong size", ARGUMENT, () -> x.now(1, 0, true, 105, 0));
        x.shut(0);
        throwsIt("p13 SHUT", STATE, () -> x.now(1, 0, true, 105, 5));
        throwsIt("p13 member 6", INDEX, () -> x.now(6, 1, true, 0, 5));
        throwsIt("p13 member -1", INDEX, () -> x.now(-1, 1, true, 1, 5));
        throwsIt("p13 book 5", INDEX, () -> x.now(1, 5, true, 1, 5));
        throwsIt("p13 book -1", INDEX, () -> x.now(1, -1, true, 1, 5));
        throwsIt("p13 price 0", ARGUMENT, () -> x.now(1, 1, true, 0, 5));
        throwsIt("p13 price 1000", ARGUMENT, () -> x.now(1, 1, true, 1000, 5));
        throwsIt("p13 price 501", ARGUMENT, () -> x.now(1, 3, true, 501, 5));
        throwsIt("p13 price -501", ARGUMENT, () -> x.now(1, 3, true, -501, 5));
        throwsIt("p13 size 101", ARGUMENT, () -> x.now(1, 1, true, 1, 101));
        due("p13 nothing of all that has a number", x.orders(), 6);
    }

    private static void stopArguments() {
        BookExchange x = Setups.open();
        throwsIt("p14 member 6", INDEX, () -> x.stop(6, 0, true, 0, 1, 1));
        throwsIt("p14 member -1", INDEX, () -> x.stop(-1, 0, true, 1, 1, 1));
        throwsIt("p14 book 5", INDEX, () -> x.stop(0, 5, true, 1, 0, 1));
        throwsIt("p14 book -1", INDEX, () -> x.stop(0, -1, true, 1, 1, 1));
        throwsIt("p14 price 0", ARGUMENT, () -> x.stop(0, 0, true, 0, 1, 1));
        throwsIt("p14 price 1000", ARGUMENT, () -> x.stop(0, 0, true, 1000, 1, 1));
        throwsIt("p14 price 501", ARGUMENT, () -> x.stop(0, 3, true, 501, 1, 1));
        throwsIt("p14 size 0", ARGUMENT, () -> x.stop(0, 0, true, 1, 0, 1));
        throwsIt("p14 size 101", ARGUMENT, () -> x.stop(0, 0, true, 1, 101, 1));
        throwsIt("p14 trigger 0", ARGUMENT, () -> x.stop(0, 0, true, 1, 1, 0));
        throwsIt("p14 trigger 1000", ARGUMENT, () -> x.stop(0, 0, true, 1, 1, 1000));
        throwsIt("p14 trigger -501", ARGUMENT, () -> x.stop(0, 4, true, 1, 1, -501));
        throwsIt("p14 trigger 501", ARGUMENT, () -> x.stop(0, 4, true, 1, 1, 501));
        due("p14 of a spread", x.stop(0, 4, true, -500, 1, 500), 0);
        due("p14 of a contract", x.stop(0, 0, true, 1, 100, 999), 1);
        due("p14 in a CALL", x.call(1) + x.stop(0, 1, false, 1, 100, 999), 4);
        x.shut(0);
        throwsIt("p14 SHUT", STATE, () -> x.stop(0, 0, true, 1, 1, 1));
        throwsIt("p14 SHUT, and a wrong trigger", ARGUMENT, () -> x.stop(0, 0, true, 1, 1, 0));
    }

    private static void triggers() {
        BookExchange x = Setups.open();
        int buy = x.stop(0, 0, true, 90, 5, 105);
        int sell = x.stop(0, 0, false, 110, 6, 95);
        due("p14 WAITING", x.state(buy), BookExchange.WAITING);
        due("p14 it shows nothing", x.shows(buy), 0);
        due("p14 it does not rest", x.best(0, true), BookExchange.NONE);
        due("p14 left", x.left(buy), 5);
        Setups.trade(x, 1, 2, 0, 104, 1);
        Setups.trade(x, 1, 2, 0, 96, 1);
        due("p14 not reached to buy", x.state(buy), BookExchange.WAITING);
        due("p14 not reached to sell", x.state(sell), BookExchange.WAITING);
        Setups.trade(x, 1, 2, 0, 105, 1);
        due("p14 reached to buy", x.state(buy), BookExchange.RESTING);
        due("p14 its price is another thing", x.best(0, true), buy);
        due("p14 it shows all", x.shows(buy), 5);
        due("p14 to sell not yet", x.state(sell), BookExchange.WAITING);
        Setups.trade(x, 1, 2, 0, 95, 1);
        due("p14 reached to sell", x.state(sell), BookExchange.RESTING);
        int late = x.stop(0, 0, true, 90, 5, 95);
        due("p14 what traded before it does not reach it", x.state(late), BookExchange.WAITING);
        x.order(1, 0, true, 94, 1, 1);
        due("p14 nor does an order that comes without a trade", x.state(late), BookExchange.WAITING);
        x.now(2, 1, true, 100, 1);
        Setups.trade(x, 1, 2, 1, 150, 1);
        due("p14 nor a trade of another book", x.state(late), BookExchange.WAITING);
        x.cancel(late);
        Setups.trade(x, 1, 2, 0, 97, 1);
        due("p14 CANCELLED ones don't come", x.state(late), BookExchange.CANCELLED);
    }

    private static void triggersOneBehindTheOther() {
        BookExchange x = Setups.open();
        int third = x.stop(3, 0, true, 103, 1, 102);
        int first = x.stop(3, 0, true, 102, 1, 101);
        int second = x.stop(3, 0, true, 103, 3, 101);
        x.order(1, 0, false, 101, 1, 1);
        x.order(1, 0, false, 102, 1, 1);
        x.order(1, 0, false, 103, 5, 5);
        x.now(2, 0, true, 101, 1);
        // At 101 the orders 1 and 2 are reached; 1 trades at 102, which reaches the order 0, the lowest one then.
        due("p14 all are DONE", x.state(first) + x.state(second) + x.state(third), 6);
        dueTrade(x, 1, 0, 3, 1, 102, 1);
        dueTrade(x, 2, 0, 3, 1, 103, 1);
        dueTrade(x, 3, 0, 3, 1, 103, 3);
        due("p14 that is all", x.trades(), 4);
    }

    private static void triggersOfHaltedBooks() {
        BookExchange x = Setups.open();
        x.setBand(0, 100, 2);
        int halting = x.stop(3, 0, true, 110, 1, 102);
        int resting = x.stop(4, 0, true, 120, 1, 102);
        x.order(1, 0, false, 102, 1, 1);
        x.order(1, 0, false, 103, 1, 1);
        x.now(2, 0, true, 102, 1);
        due("p14 the first one halts the book", x.phase(0), BookExchange.HALTED);
        due("p14 and rests", x.state(halting), BookExchange.RESTING);
        due("p14 the other one rests without a match", x.state(resting), BookExchange.RESTING);
        due("p14 best", x.best(0, true), resting);
        due("p14 trades", x.trades(), 1);
        x.setBand(0, 100, 999);
        int waits = x.stop(5, 0, false, 90, 1, 120);
        int waitsOn = x.stop(5, 0, true, 90, 1, 121);
        due("p14 an auction trades, at 120, where the gap is 0", x.uncross(0), 1);
        due("p14 and reaches triggers at its price", x.state(waits), BookExchange.DONE);
        due("p14 or not", x.state(waitsOn), BookExchange.WAITING);
        dueTrade(x, 1, 0, 4, 1, 120, 1);
        due("p14 what comes trades", x.trade(2, BookExchange.PRICE), 110);
    }

    private static void triggersByOtherBooks() {
        BookExchange x = Setups.open();
        int spread = x.stop(5, 3, true, -500, 1, 8);
        int contract = x.stop(5, 1, false, 999, 1, 90);
        int chained = x.stop(5, 0, false, 999, 1, 98);
        x.order(1, 3, false, 8, 2, 2);
        x.order(2, 1, false, 90, 2, 2);
        x.now(3, 0, true, 200, 1);
        due("p14 the book that comes trades at the price of the way", x.state(chained), BookExchange.RESTING);
        due("p14 each one taken at its own", x.state(spread) + x.state(contract), 2 * BookExchange.RESTING);
        BookExchange y = Setups.open();
        int first = y.stop(5, 0, true, 1, 1, 1);
        int second = y.stop(5, 1, true, 1, 1, 1);
        y.order(1, 3, false, 8, 2, 2);
        y.now(2, 3, true, 8, 2);
        due("p14 by the way 0 of a spread no contract's book trades", y.state(first) + y.state(second), 0);
        y.order(1, 3, false, 8, 2, 2);
        y.order(1, 4, false, 8, 2, 2);
        y.order(1, 2, false, 80, 2, 2);
        y.now(2, 0, true, 200, 2);
        due("p14 by the way 2 of the book 0 its book trades", y.state(first), BookExchange.RESTING);
        due("p14 the book between does not", y.state(second), BookExchange.WAITING);
    }

    private static void quoteArguments() {
        BookExchange x = Setups.open();
        String before = Setups.all(x);
        throwsIt("p15 member 6", INDEX, () -> x.quote(6, 0, 5, 5, 1));
        throwsIt("p15 member -1", INDEX, () -> x.quote(-1, 0, 5, 6, 1));
        throwsIt("p15 book 5", INDEX, () -> x.quote(0, 5, 5, 6, 0));
        throwsIt("p15 book -1", INDEX, () -> x.quote(0, -1, 5, 6, 1));
        throwsIt("p15 bid 0", ARGUMENT, () -> x.quote(0, 0, 0, 6, 1));
        throwsIt("p15 ask 1000", ARGUMENT, () -> x.quote(0, 0, 5, 1000, 1));
        throwsIt("p15 bid 999", ARGUMENT, () -> x.quote(0, 0, 999, 1000, 1));
        throwsIt("p15 bid of a spread", ARGUMENT, () -> x.quote(0, 3, -501, 6, 1));
        throwsIt("p15 ask of a spread", ARGUMENT, () -> x.quote(0, 3, 5, 501, 1));
        throwsIt("p15 bid above all of a spread", ARGUMENT, () -> x.quote(0, 3, 500, 501, 1));
        throwsIt("p15 ask at bid", ARGUMENT, () -> x.quote(0, 0, 5, 5, 1));
        throwsIt("p15 ask below bid", ARGUMENT, () -> x.quote(0, 0, 5, 4, 1));
        throwsIt("p15 size 0", ARGUMENT, () -> x.quote(0, 0, 5, 6, 0));
        throwsIt("p15 size 101", ARGUMENT, () -> x.quote(0, 0, 5, 6, 101));
        due("p15 what throws changes nothing", Setups.all(x).equals(before), true);
        due("p15 edges", x.quote(0, 0, 1, 999, 100), 0);
        due("p15 edges of a spread", x.quote(0, 3, -500, 500, 1), 2);
        due("p15 in a CALL", x.call(1) + x.quote(0, 1, 5, 6, 1), 6);
        x.shut(1);
        throwsIt("p15 SHUT", STATE, () -> x.quote(0, 1, 5, 6, 1));
        throwsIt("p15 SHUT, and a wrong ask", ARGUMENT, () -> x.quote(0, 1, 5, 5, 1));
    }

    private static void quoteReplaces() {
        BookExchange x = Setups.open();
        int own = x.order(1, 0, true, 80, 1, 1);
        int quote = x.quote(1, 0, 95, 105, 4);
        due("p15 to buy", x.best(0, true), quote);
        due("p15 to sell", x.best(0, false), quote + 1);
        int elsewhere = x.quote(1, 1, 95, 105, 4);
        int others = x.quote(2, 0, 94, 106, 4);
        int next = x.quote(1, 0, 96, 104, 3);
        due("p15 that before is CANCELLED", x.state(quote) + x.state(quote + 1), 2 * BookExchange.CANCELLED);
        due("p15 its size stays left", x.left(quote), 4);
        due("p15 that of another book stays", x.state(elsewhere), BookExchange.RESTING);
        due("p15 that of another member stays", x.state(others), BookExchange.RESTING);
        due("p15 what is no quote stays", x.state(own), BookExchange.RESTING);
        due("p15 the new one", x.best(0, true) * 1000 + x.best(0, false), next * 1001 + 1);
        x.now(3, 0, false, 96, 3);
        x.quote(1, 0, 97, 103, 3);
        due("p15 what is DONE stays DONE", x.state(next), BookExchange.DONE);
        due("p15 the other one not", x.state(next + 1), BookExchange.CANCELLED);
        x.quote(1, 0, 106, 107, 4);
        due("p15 a quote trades as it comes", x.left(others + 1), 0);
        dueTrade(x, 1, 0, 1, 2, 106, 4);
        x.quote(1, 0, 80, 94, 4);
        due("p15 so does its order to sell", x.state(others), BookExchange.DONE);
    }

    private static void quoteRefused() {
        BookExchange x = Setups.open();
        x.setMove(0, 0, -1);
        x.setMove(1, 0, 2);
        x.deposit(0, 20 - 1000000);
        int quote = x.quote(0, 0, 90, 110, 10);
        due("p15 a need of 20", x.need(0), 20);
        due("p15 in place of the one before", x.quote(0, 0, 91, 109, 10), quote + 2);
        due("p15 not beside it, in another book", x.quote(0, 3, 1, 2, 1), BookExchange.NONE);
        due("p15 too much", x.quote(0, 0, 92, 108, 11), BookExchange.NONE);
        due("p15 that before stays", x.state(quote + 2) + x.state(quote + 3), 2 * BookExchange.RESTING);
        due("p15 a refused one has no number", x.orders(), 4);
        due("p15 an order beside it", x.order(0, 0, true, 80, 10, 10), 4);
        due("p15 to sell not", x.order(0, 0, false, 120, 1, 1), BookExchange.NONE);
        x.cancel(4);
        x.order(0, 0, true, 80, 5, 5);
        due("p15 less is fine", x.quote(0, 0, 91, 109, 9), 6);
        BookExchange y = Setups.open();
        y.setMove(0, 0, -2);
        y.deposit(0, 20 - 1000000);
        due("p15 the order to buy counts", y.quote(0, 0, 90, 110, 11), BookExchange.NONE);
        due("p15 as much as there are funds", y.quote(0, 0, 90, 110, 10), 0);
    }

    private static void quotePulled() {
        BookExchange x = Setups.open();
        x.protect(1, 5);
        x.protect(2, 5);
        int a = x.quote(1, 0, 95, 105, 4);
        int b = x.quote(1, 3, -5, 5, 4);
        int c = x.quote(2, 0, 94, 105, 4);
        int own = x.order(1, 1, false, 140, 3, 3);
        x.now(0, 0, true, 105, 8);
        due("p15 4 of each are not more than 5", x.state(a) + x.state(b) + x.state(c), 3);
        a = x.quote(1, 0, 95, 105, 4);
        x.now(0, 0, false, 95, 4);
        due("p15 nor does it count from call to call", x.state(a + 1), BookExchange.RESTING);
        a = x.quote(1, 0, 95, 105, 4);
        x.now(0, 3, true, 5, 3);
        due("p15 the spread trades 3", x.left(b + 1), 1);
        x.order(0, 0, false, 90, 3, 3);
        due("p15 3 and 3 by two calls", x.state(b), BookExchange.RESTING);
        x.cancel(own);
        x.protect(1, 1);
        due("p15 it is looked at when an order has come", x.state(b), BookExchange.RESTING);
        x.order(5, 2, true, 1, 1, 1);
        due("p15 and counts this call alone", x.state(b), BookExchange.RESTING);
        x.now(0, 3, false, -5, 2);
        due("p15 more than 1: all quotes", x.state(a) + x.state(b), 2 * BookExchange.CANCELLED);
        due("p15 also of the other sides", x.state(a + 1) + x.state(b + 1), 2 * BookExchange.CANCELLED);
        due("p15 not those of others", x.state(c), BookExchange.RESTING);
        x.protect(2, 0);
        x.now(0, 0, false, 94, 4);
        due("p15 no protection", x.state(c), BookExchange.DONE);
        x.call(2);
        x.protect(2, 2);
        int d = x.quote(2, 2, 99, 101, 3);
        int e = x.quote(2, 4, 99, 101, 3);
        x.order(0, 2, true, 101, 3, 3);
        due("p15 in an auction", x.uncross(2), 3);
        due("p15 quotes are pulled too", x.state(d) + x.state(e), 2 * BookExchange.CANCELLED);
        BookExchange y = Setups.open();
        y.protect(1, 5);
        y.quote(1, 0, 95, 105, 4);
        y.call(2);
        int kept = y.quote(1, 2, 95, 105, 4);
        y.order(0, 2, true, 105, 3, 3);
        y.now(0, 0, true, 105, 4);
        due("p15 4 by one call, and 3 by the auction", y.uncross(2), 3);
        due("p15 are two calls", y.state(kept), BookExchange.RESTING);
        y.order(0, 0, false, 97, 3, 3);
        kept = y.quote(1, 2, 95, 105, 4);
        y.now(0, 2, true, 105, 3);
        int again = y.quote(1, 0, 97, 105, 4);
        due("p15 so are 3 and the 3 that a new quote trades", y.left(again), 1);
        due("p15 none is pulled", y.state(again) + y.state(kept), 2 * BookExchange.RESTING);
        y.now(0, 0, true, 105, 3);
        y.now(0, 0, true, 105, 1);
        y.now(0, 2, true, 105, 3);
        due("p15 nor do orders for now count together", y.state(kept), BookExchange.RESTING);
        int f = x.order(2, 2, true, 90, 1, 1);
        x.now(0, 2, false, 90, 1);
        due("p15 what is no quote does not count", x.state(f), BookExchange.DONE);
    }

    private static void quotePulledBetweenItsOrders() {
        BookExchange x = Setups.open();
        x.protect(1, 3);
        int other = x.quote(1, 1, 90, 110, 1);
        x.order(0, 0, false, 100, 4, 4);
        x.order(0, 0, true, 98, 2, 2);
        int quote = x.quote(1, 0, 100, 101, 6);
        due("p15 the order to buy trades 4 and is pulled", x.state(quote), BookExchange.CANCELLED);
        due("p15 that to sell comes all the same", x.orders(), quote + 2);
        due("p15 and is pulled then", x.state(quote + 1), BookExchange.CANCELLED);
        due("p15 as all others", x.state(other), BookExchange.CANCELLED);
        int stop = x.stop(2, 0, false, 99, 5, 100);
        x.order(0, 0, false, 100, 2, 2);
        quote = x.quote(1, 0, 100, 101, 4);
        due("p15 the stop comes ahead of the order to sell", x.state(quote), BookExchange.DONE);
        due("p15 it sells 2 and rests", x.left(stop), 3);
        due("p15 4 are more than 3", x.state(quote + 1), BookExchange.CANCELLED);
        x.protect(1, 4);
        x.cancel(stop);
        x.order(0, 0, false, 100, 4, 4);
        x.order(3, 0, true, 99, 2, 2);
        quote = x.quote(1, 0, 100, 101, 4);
        due("p15 4 are not more than 4", x.state(quote + 1), BookExchange.RESTING);
    }

    private static void quotePulledAheadOfTriggers() {
        BookExchange x = Setups.open();
        x.protect(1, 1);
        int quote = x.quote(1, 0, 98, 102, 2);
        int stop = x.stop(2, 0, false, 98, 5, 102);
        x.now(0, 0, true, 102, 2);
        due("p15 pulled", x.state(quote), BookExchange.CANCELLED);
        due("p15 ahead of the order that was triggered", x.state(stop), BookExchange.RESTING);
        due("p15 which finds nothing", x.left(stop), 5);
    }

    private static void cancel() {
        BookExchange x = Setups.open();
        x.order(0, 0, true, 100, 9, 3);
        x.now(1, 0, false, 100, 4);
        due("p16 what was left", x.cancel(0), 5);
        due("p16 it stays told", x.left(0), 5);
        due("p16 CANCELLED", x.state(0), BookExchange.CANCELLED);
        due("p16 shows nothing", x.shows(0), 0);
        due("p16 gone", x.best(0, true), BookExchange.NONE);
        throwsIt("p16 CANCELLED", STATE, () -> x.cancel(0));
        throwsIt("p16 DONE", STATE, () -> x.cancel(1));
        throwsIt("p16 no such order", INDEX, () -> x.cancel(2));
        throwsIt("p16 -1", INDEX, () -> x.cancel(-1));
        x.stop(0, 0, true, 100, 7, 120);
        due("p16 WAITING", x.cancel(2), 7);
        int first = x.order(2, 0, true, 50, 1, 1), second = x.order(2, 0, true, 50, 2, 2), third = x.order(2, 0, true, 50, 3, 3);
        due("p16 one between", x.cancel(second), 2);
        due("p16 the first one", x.cancel(first), 1);
        due("p16 leaves the third one", x.best(0, true), third);
    }

    private static void atMost200Orders() {
        BookExchange x = Setups.open();
        for (int i = 0; i < 198; i++) {
            x.order(0, 0, true, 1, 1, 1);
        }
        x.order(0, 0, true, 1, 1, 1);
        throwsIt("p15 199 orders", STATE, () -> x.quote(0, 0, 1, 2, 1));
        due("p12 the last one", x.order(0, 0, true, 1, 1, 1), 199);
        throwsIt("p12 200 orders", STATE, () -> x.order(0, 0, true, 1, 1, 1));
        throwsIt("p13 200 orders", STATE, () -> x.now(0, 0, true, 1, 1));
        throwsIt("p14 200 orders", STATE, () -> x.stop(0, 0, true, 1, 1, 1));
        due("p21 orders", x.orders(), 200);
        throwsIt("p22 no such order", INDEX, () -> x.state(200));
        due("p22 the last one", x.state(199), BookExchange.RESTING);
        BookExchange y = Setups.open();
        for (int i = 0; i < 198; i++) {
            y.order(0, 0, true, 1, 1, 1);
        }
        due("p15 198 orders", y.quote(0, 0, 1, 2, 1), 198);
    }
}
