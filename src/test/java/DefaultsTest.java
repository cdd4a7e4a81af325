/** Promises 17 to 19: trades and defaults. */
public final class DefaultsTest extends Shorthand {
    public static void main(String[] args) {
        bust();
        bid();
        failNeedsALoss();
        failCancelsOrders();
        theLeastBid();
        bidsThatAreTooLow();
        takeOverOfShortPositions();
        takeOverOfNothing();
        tearUp();
        tearUpOfSeveral();
        defaultTradesMoveNothing();
        layersOfLoss();
        sharesAreRounded();
        lossBeyondAll();
        gainsAreGone();
        Checks.end("DefaultsTest");
    }

    private static void bust() {
        BookExchange x = Setups.open();
        Setups.trade(x, 0, 1, 0, 104, 3);
        Setups.trade(x, 0, 2, 0, 107, 2);
        due("p17 size", x.bust(0), 3);
        due("p34 the buyer's position", x.position(0, 0), 2);
        due("p34 the seller's", x.position(1, 0), 0);
        due("p35 by trades", x.positionByTrades(0, 0), 2);
        due("p36 cash", x.cash(0), -214);
        due("p36 the seller's", x.cash(1), 0);
        due("p33 BUSTED", x.trade(0, BookExchange.BUSTED), 1);
        due("p33 its other figures stay", x.trade(0, BookExchange.SIZE) * 1000 + x.trade(0, BookExchange.PRICE), 3104);
        due("p32 it counts", x.trades(), 2);
        due("p22 orders stay", x.state(0) + x.state(1), 2 * BookExchange.DONE);
        x.bust(1);
        due("p30 the mark stays", x.mark(0), 107);
        throwsIt("p17 busted", STATE, () -> x.bust(0));
        throwsIt("p17 no such trade", INDEX, () -> x.bust(2));
        throwsIt("p17 -1", INDEX, () -> x.bust(-1));
    }

    private static void bid() {
        BookExchange x = new BookExchange();
        due("p18 the first one", x.bid(3, 1000000), 1);
        due("p18 in place of an earlier one", x.bid(3, -1000000), 1);
        due("p18 another one", x.bid(0, 0), 2);
        throwsIt("p18 member 6", INDEX, () -> x.bid(6, 1000001));
        throwsIt("p18 member -1", INDEX, () -> x.bid(-1, 0));
        throwsIt("p18 1000001", ARGUMENT, () -> x.bid(0, 1000001));
        throwsIt("p18 -1000001", ARGUMENT, () -> x.bid(0, -1000001));
    }

    /** Member 0 bought 10 of the contract 0 at 100, from 1; it has 100 and a loss of 150: its funds are -50. */
    private static BookExchange broken() {
        BookExchange x = Setups.open();
        x.deposit(0, 100 - 1000000);
        Setups.trade(x, 0, 1, 0, 100, 10);
        Setups.trade(x, 3, 4, 0, 85, 1);
        return x;
    }

    private static void failNeedsALoss() {
        BookExchange x = Setups.open();
        Setups.trade(x, 0, 1, 0, 100, 10);
        x.deposit(0, 100 - 1000000);
        x.setMove(2, 0, -10);
        due("p38 the margin is the funds", x.margin(0), x.funds(0));
        throwsIt("p19 not below", STATE, () -> x.fail(0));
        throwsIt("p19 member 6", INDEX, () -> x.fail(6));
        throwsIt("p19 member -1", INDEX, () -> x.fail(-1));
        x.setMove(2, 0, 0);
        x.setMove(2, 1, -10);
        x.order(0, 1, true, 50, 10, 10);
        x.setMove(2, 1, -11);
        due("p39 the need is above the funds", x.need(0), 110);
        throwsIt("p19 orders don't count", STATE, () -> x.fail(0));
        x.setMove(2, 0, -11);
        due("p19 below: nobody takes over", x.fail(0), BookExchange.NONE);
        due("p41 OUT", x.isOut(0), true);
        due("p41 not another one", x.isOut(1), false);
    }

    private static void failCancelsOrders() {
        BookExchange x = broken();
        int rests = x.order(0, 1, true, 50, 4, 4);
        due("p12 refused below 0", rests, BookExchange.NONE);
        x.deposit(0, 1000);
        rests = x.order(0, 1, true, 50, 4, 4);
        int quote = x.quote(0, 3, -5, 5, 2);
        int waits = x.stop(0, 2, true, 50, 4, 120);
        int other = x.order(1, 1, true, 40, 4, 4);
        x.deposit(0, -950);
        x.setMove(0, 0, -1);
        x.cancel(quote);
        due("p19 funds of 0, a margin of 10", x.fail(0), BookExchange.NONE);
        due("p19 what rests", x.state(rests), BookExchange.CANCELLED);
        due("p19 what waits", x.state(waits), BookExchange.CANCELLED);
        due("p19 quotes", x.state(quote + 1), BookExchange.CANCELLED);
        due("p19 those of others stay", x.best(1, true), other);
        due("p23 left", x.left(rests), 4);
        due("p39 it needs nothing", x.need(0), 0);
    }

    private static void theLeastBid() {
        BookExchange x = broken();
        x.bid(5, 70);
        x.bid(4, 60);
        x.bid(3, 60);
        due("p19 the least one, of several the lowest", x.fail(0), 3);
        due("p34 takes over", x.position(3, 0), 11);
        due("p34 from it", x.position(0, 0), 0);
        due("p35 by trades", x.positionByTrades(0, 0), 0);
        dueTrade(x, 2, 0, 3, 0, 85, 10);
        due("p36 and is paid", x.cash(3), -85 - 850 + 60);
        due("p18 all bids are gone", x.bid(1, 5), 1);
        due("p43 the loss is 110", x.uncovered(), 110);
        due("p36 cash of one who is OUT", x.cash(0), 0);
        due("p37 funds of one who is OUT", x.funds(0), 0);
        BookExchange y = broken();
        y.bid(0, -1000);
        y.bid(2, 10);
        due("p19 it can't bid for itself", y.fail(0), 2);
    }

    private static void bidsThatAreTooLow() {
        BookExchange x = broken();
        x.setMove(1, 0, -20);
        x.setMove(1, 1, 5);
        x.deposit(5, 150 - 1000000);
        x.deposit(2, 151 - 1000000);
        x.bid(5, 49);
        x.bid(2, 50);
        due("p19 200 are above 150 and 49", x.fail(0), 2);
        BookExchange y = broken();
        y.setMove(1, 0, -20);
        y.deposit(5, 150 - 1000000);
        y.bid(5, 50);
        due("p19 200 are not above 150 and 50", y.fail(0), 5);
        due("p38 margin", y.margin(5), 200);
        due("p37 funds", y.funds(5), 200);
        BookExchange z = broken();
        z.setMove(1, 0, -20);
        z.bid(1, -999000);
        due("p19 positions together: 1 has sold what it takes over", z.fail(0), 1);
        due("p34 so it is even", z.position(1, 0), 0);
        due("p36 and pays", z.cash(1), 1000 - 850 - 999000);
    }

    private static void takeOverOfShortPositions() {
        BookExchange x = Setups.open();
        x.deposit(0, 100 - 1000000);
        Setups.trade(x, 1, 0, 0, 100, 4);
        Setups.trade(x, 0, 1, 2, 100, 3);
        Setups.trade(x, 3, 4, 0, 200, 1);
        x.bid(2, -10);
        due("p19 it takes all", x.fail(0), 2);
        dueTrade(x, 3, 0, 0, 2, 200, 4);
        dueTrade(x, 4, 2, 2, 0, 100, 3);
        due("p32 nothing of the contract without a position", x.trades(), 5);
        due("p34 sold", x.position(2, 0), -4);
        due("p34 bought", x.position(2, 2), 3);
        due("p43 it paid for it", x.uncovered(), 290);
    }

    private static void takeOverOfNothing() {
        BookExchange x = broken();
        x.now(0, 0, true, 85, 1);
        x.order(3, 0, true, 85, 10, 10);
        x.deposit(0, 1000);
        x.now(0, 0, false, 85, 10);
        x.deposit(0, -1000 + 50);
        due("p34 no position", x.position(0, 0), 0);
        due("p37 no funds", x.funds(0), 0);
        throwsIt("p19 0 is not below 0", STATE, () -> x.fail(0));
        x.bust(1);
        x.bust(2);
        Setups.trade(x, 3, 4, 0, 80, 1);
        due("p37 below 0", x.funds(0), -50);
        x.now(3, 0, true, 85, 1);
        x.bid(3, 7);
        due("p19 there is one who takes over", x.fail(0), 3);
    }

    private static void tearUp() {
        BookExchange x = Setups.open();
        Setups.trade(x, 0, 1, 0, 100, 1);
        Setups.trade(x, 0, 2, 0, 100, 4);
        Setups.trade(x, 0, 3, 0, 100, 2);
        Setups.trade(x, 5, 4, 0, 100, 3);
        x.deposit(0, 3499 - 1000000);
        x.setMove(0, 0, -500);
        due("p19 nobody takes over", x.fail(0), BookExchange.NONE);
        // 7 of 10: 0.7, 2.8, 1.4, 2.1: 0, 2, 1, 2 and one more each of 1 and 2.
        dueTrade(x, 4, 0, 1, 0, 100, 1);
        dueTrade(x, 5, 0, 2, 0, 100, 3);
        dueTrade(x, 6, 0, 3, 0, 100, 1);
        dueTrade(x, 7, 0, 4, 0, 100, 2);
        due("p34 what stays", x.position(2, 0) * 100 + x.position(3, 0) * 10 + x.position(4, 0), -111);
        due("p34 the same side does not matter", x.position(5, 0), 3);
        due("p34 its own", x.position(0, 0), 0);
        due("p43 no loss", x.uncovered(), 0);
    }

    private static void tearUpOfSeveral() {
        BookExchange x = Setups.open();
        Setups.trade(x, 0, 1, 2, 100, 5);
        Setups.trade(x, 2, 0, 0, 100, 6);
        Setups.trade(x, 3, 0, 0, 100, 1);
        x.deposit(0, 3499 - 1000000);
        x.setMove(0, 0, 500);
        due("p19 by rising contracts", x.fail(0), BookExchange.NONE);
        dueTrade(x, 3, 0, 0, 2, 100, 6);
        dueTrade(x, 4, 0, 0, 3, 100, 1);
        dueTrade(x, 5, 2, 1, 0, 100, 5);
        due("p32 trades", x.trades(), 6);
    }

    private static void defaultTradesMoveNothing() {
        BookExchange x = broken();
        int stop = x.stop(5, 0, true, 50, 1, 85);
        Setups.trade(x, 3, 4, 1, 90, 1);
        x.fail(0);
        due("p14 no book trades by them", x.state(stop), BookExchange.WAITING);
        due("p30 no mark", x.mark(0), 85);
        due("p31 no middle", x.middle(0), 100);
    }

    private static void layersOfLoss() {
        BookExchange x = broken();
        x.setShare(0, 60);
        x.setShare(1, 500);
        x.setCapital(500);
        x.fail(0);
        due("p19 its own share first, without what is left of it", x.share(0), 0);
        due("p42 the capital is not touched", x.capital(), 500);
        BookExchange y = broken();
        y.setShare(0, 20);
        y.setShare(1, 500);
        y.setCapital(31);
        y.fail(0);
        due("p42 30 of the capital", y.capital(), 1);
        due("p40 shares of others are not touched", y.share(1), 500);
        BookExchange z = broken();
        z.setShare(0, 20);
        z.setShare(1, 500);
        z.setCapital(10);
        z.fail(0);
        due("p42 all of the capital", z.capital(), 0);
        due("p40 20 of the others", z.share(1), 480);
        due("p43 nothing uncovered", z.uncovered(), 0);
    }

    private static void sharesAreRounded() {
        BookExchange x = broken();
        int[] shares = {0, 30, 10, 1, 60, 9};
        for (int member = 1; member < 6; member++) {
            x.setShare(member, shares[member]);
        }
        x.fail(0);
        // 50 of 110: 13, 4, 0, 27, 4, and two more in turn of 1 and 2.
        int[] left = {0, 16, 5, 1, 33, 5};
        for (int member = 0; member < 6; member++) {
            due("p40 share of " + member, x.share(member), left[member]);
        }
        BookExchange y = broken();
        y.setShare(3, 25);
        y.setShare(4, 30);
        y.setMove(0, 0, -500);
        y.setShare(2, 10);
        y.deposit(5, -1000000);
        y.fail(0);
        due("p40 25 and 30 and 10 of 50 of 65", y.share(2) * 10000 + y.share(3) * 100 + y.share(4), 20607);
    }

    private static void lossBeyondAll() {
        BookExchange x = broken();
        x.setShare(0, 3);
        x.setShare(2, 7);
        x.setShare(5, 8);
        x.setCapital(4);
        x.fail(0);
        due("p40 all shares", x.share(2) + x.share(5), 0);
        due("p43 what is left", x.uncovered(), 28);
        Setups.trade(x, 2, 1, 2, 100, 1);
        x.deposit(2, -1000000);
        Setups.trade(x, 3, 4, 2, 40, 1);
        x.setShare(4, 11);
        x.fail(2);
        due("p40 once more all shares", x.share(4), 0);
        due("p43 all losses together", x.uncovered(), 28 + 49);
    }

    private static void gainsAreGone() {
        BookExchange x = Setups.open();
        Setups.trade(x, 0, 1, 0, 100, 10);
        x.deposit(0, 100 - 1000000);
        x.setShare(0, 44);
        x.setCapital(5);
        x.setMove(0, 0, -11);
        x.fail(0);
        due("p19 no loss", x.uncovered(), 0);
        due("p42 nor one of the house", x.capital(), 5);
        due("p19 but all it has is 0", x.funds(0) + x.cash(0) + x.share(0), 0);
        due("p38 margin", x.margin(0), 0);
    }
}
