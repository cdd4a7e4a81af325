/** The Terms' "Margins, limits", "Defaults" and "Exceptions", sentence by sentence. */
final class TermsOfDefaults extends Shorthand {
    private TermsOfDefaults() {
    }

    static void all() {
        margins();
        needs();
        refusals();
        takeOvers();
        takenOver();
        tornUp();
        bidsGone();
        losses();
        exceptions();
    }

    // These stand in the document below the heading of the quotes.
    private static void margins() {
        Sentences.plain("Margins, limits");
        Sentences.says("The funds of a member are its collateral, its cash, and its positions times the marks, together.", () -> {
            BookExchange x = new BookExchange();
            due("nothing", x.funds(0), 0);
            x = Setups.open();
            Setups.trade(x, 0, 1, 0, 110, 3);
            Setups.trade(x, 1, 0, 2, 90, 2);
            due("at the marks of its trades", x.funds(0), 1000000);
            Setups.trade(x, 2, 3, 0, 117, 1);
            Setups.trade(x, 2, 3, 2, 95, 1);
            due("collateral, cash, positions", x.funds(0), 1000000 + (-330 + 180) + (3 * 117 - 2 * 95));
            x.deposit(0, -1000);
            due("less collateral", x.funds(0), 999000 - 150 + 161);
            BookExchange y = Setups.open();
            y.deposit(0, -1000000);
            Setups.trade(y, 0, 1, 0, 100, 1);
            due("0 is enough for a need of 0", y.funds(0), 0);
            Setups.trade(y, 2, 3, 0, 99, 1);
            due("below 0", y.funds(0), -1);
        });
        Sentences.says("There are the scenarios 0 to 5, each with a move of each contract, 0 at first.", () -> {
            BookExchange x = new BookExchange();
            for (int s = 0; s < 6; s++) {
                for (int c = 0; c < 3; c++) {
                    due("at first", x.setMove(s, c, s * 10 + c + 1), 0);
                }
            }
            for (int s = 0; s < 6; s++) {
                for (int c = 0; c < 3; c++) {
                    due("each its own", x.setMove(s, c, 0), s * 10 + c + 1);
                }
            }
            throwsIt("scenario 6", INDEX, () -> x.setMove(6, 0, 0));
            throwsIt("scenario -1", INDEX, () -> x.setMove(-1, 0, 0));
            throwsIt("contract 3", INDEX, () -> x.setMove(0, 3, 0));
        });
        Sentences.says("The margin of some positions is the greatest loss by a scenario, but at least 0:", () -> {
            for (int s = 0; s < 6; s++) {
                BookExchange x = holding();
                x.setMove(s, 0, 5);
                due("a gain", x.margin(0), 0);
                x.setMove(s, 0, -1);
                due("a loss", x.margin(0), 3);
                x.setMove((s + 1) % 6, 0, -2);
                due("a greater one", x.margin(0), 6);
                x.setMove((s + 2) % 6, 0, -1);
                due("the greatest of three", x.margin(0), 6);
            }
            BookExchange gains = holding();
            for (int s = 0; s < 6; s++) {
                gains.setMove(s, 0, 5);
            }
            due("a gain by all scenarios", gains.margin(0), 0);
            due("which is a loss of the other side", gains.margin(1), 15);
            due("without moves", holding().margin(0), 0);
            due("without positions", holding().margin(5), 0);
        });
        Sentences.says("the loss is 0 less the positions times the moves, together.", () -> {
            BookExchange x = holding();
            x.setMove(0, 0, -10);
            due("3 times 10", x.margin(0), 30);
            due("what it sold gains", x.margin(1), 0);
            x.setMove(0, 1, 7);
            due("and 4 times 7 of what is sold", x.margin(0), 58);
            x.setMove(0, 2, 1);
            due("less 5 times 1", x.margin(0), 53);
            x.setMove(0, 2, 500);
            due("less far more", x.margin(0), 0);
            due("the other side", x.margin(1), 2500 - 58);
        });
    }

    /** Member 0 has bought 3 of 0, sold 4 of 1, bought 5 of 2, each with 1. */
    private static BookExchange holding() {
        BookExchange x = Setups.open();
        Setups.trade(x, 0, 1, 0, 100, 3);
        Setups.trade(x, 1, 0, 1, 100, 4);
        Setups.trade(x, 0, 1, 2, 100, 5);
        return x;
    }

    private static void needs() {
        Sentences.says("What could be bought of a contract by a member is what is left of all its WAITING and RESTING orders that buy it, or a spread of which it is the first contract, or sell a spread of which it is the second one;", () -> {
            int[][] bought = {{0, 0}, {3, 0}, {1, 1}, {4, 1}, {3, 1}, {2, 2}, {4, 2}};
            for (int[] one : bought) {
                boolean isBuy = one[0] < 3 || one[0] - 3 == one[1];
                dueNeeds(one[0], isBuy, one[1], -10);
            }
            BookExchange x = Setups.open();
            x.setMove(0, 0, -10);
            x.order(0, 0, true, 50, 7, 2);
            x.stop(0, 0, true, 50, 2, 60);
            due("RESTING and WAITING, shown or not", x.need(0), 90);
            x.now(1, 0, false, 50, 3);
            due("what was bought is so still, as a position", x.need(0), 90);
            x.now(0, 0, true, 40, 1);
            due("what is CANCELLED is not", x.need(0), 90);
            x.cancel(1);
            due("nor here", x.need(0), 70);
            x.bust(0);
            x.bust(1);
            due("what is left", x.need(0), 40);
            due("of others nothing", x.need(1), 0);
        });
        Sentences.says("what could be sold likewise.", () -> {
            int[][] sold = {{0, 0}, {3, 0}, {1, 1}, {4, 1}, {3, 1}, {2, 2}, {4, 2}};
            for (int[] one : sold) {
                boolean isBuy = one[0] >= 3 && one[0] - 3 != one[1];
                dueNeeds(one[0], isBuy, one[1], 10);
            }
        });
        Sentences.says("The need of a member is the greatest margin of its positions when, of each contract, either all that could be bought was bought, or all that could be sold was sold.", () -> {
            BookExchange x = holding();
            due("nothing moves", x.need(0), 0);
            x.setMove(0, 0, -10);
            x.setMove(1, 0, 10);
            due("positions alone", x.need(0), 30);
            buys(x, 0, 0, 50, 2);
            due("3 and 2 to buy, times 10", x.need(0), 50);
            sells(x, 0, 0, 150, 7);
            due("3 less 7: 4 times 10", x.need(0), 50);
            sells(x, 0, 0, 150, 2);
            due("3 less 9: 6 times 10", x.need(0), 60);
            due("the margin is as before", x.margin(0), 30);
            x.setMove(1, 2, -1);
            buys(x, 0, 2, 50, 10);
            due("of each contract its own: 60, and 15 to buy", x.need(0), 75);
            sells(x, 0, 2, 150, 100);
            due("not both of one contract", x.need(0), 75);
            x.setMove(1, 2, 1);
            due("60, and 95 sold", x.need(0), 155);
            x.setMove(1, 0, 0);
            x.setMove(0, 2, 0);
            due("the greatest of all scenarios", x.need(0), 95);
            x.setMove(1, 2, 0);
            x.setMove(0, 0, 0);
            due("at least 0", x.need(0), 0);
            BookExchange gains = holding();
            for (int s = 0; s < 6; s++) {
                gains.setMove(s, 0, 5);
            }
            buys(gains, 0, 0, 50, 100);
            sells(gains, 0, 0, 150, 2);
            due("at least 0, though all scenarios gain", gains.need(0), 0);
            gains.deposit(0, -1000000);
            due("that are its funds", gains.funds(0), 0);
            sells(gains, 0, 0, 150, 1);
            due("3 sold of 3 gain nothing", gains.need(0), 0);
            due("4 would lose", sells(gains, 0, 0, 150, 1), BookExchange.NONE);
        });
    }

    /** An order of a book, for 6, needs 60 by a move of a contract, and nothing by the opposite one. */
    private static void dueNeeds(int book, boolean isBuy, int contract, int move) {
        BookExchange x = Setups.open();
        asks(isBuy, x, 0, book, book < 3 ? 100 : 0, 6);
        x.setMove(2, contract, move);
        due("book " + book + ", contract " + contract, x.need(0), 60);
        x.setMove(2, contract, -move);
        due("book " + book + ", contract " + contract + ", the other way", x.need(0), 0);
    }

    private static void refusals() {
        Sentences.says("An order is refused if the need of its member with it, as if it was WAITING, would be above its funds;", () -> {
            for (int most = 59; most < 61; most++) {
                for (int kind = 0; kind < 3; kind++) {
                    for (int b = 0; b < 5; b++) {
                        BookExchange x = Setups.open();
                        x.setMove(0, b < 3 ? b : b - 3, -10);
                        x.deposit(0, most - 1000000);
                        int at = b < 3 ? 100 : 0;
                        int order = kind == 0 ? x.order(0, b, true, at, 6, 1) : kind == 1 ? x.now(0, b, true, at, 6) : x.stop(0, b, true, at, 6, at);
                        due("a need of 60, funds of " + most, order, most < 60 ? BookExchange.NONE : 0);
                        due("so many orders", x.orders(), most < 60 ? 0 : 1);
                    }
                }
            }
            BookExchange x = Setups.open();
            x.setMove(0, 0, -10);
            x.setMove(1, 0, 10);
            x.deposit(0, 60 - 1000000);
            due("6 to buy", buys(x, 0, 0, 50, 6), 0);
            due("none more", buys(x, 0, 0, 50, 1), BookExchange.NONE);
            due("6 to sell beside them", sells(x, 0, 0, 150, 6), 1);
            due("none more to sell", sells(x, 0, 0, 150, 1), BookExchange.NONE);
            sells(x, 1, 0, 120, 9);
            due("though it would trade at once", x.now(0, 0, true, 120, 1), BookExchange.NONE);
            BookExchange y = Setups.open();
            y.deposit(0, -1000000);
            due("a need of 0, funds of 0", buys(y, 0, 0, 100, 1), 0);
            y.now(1, 0, false, 100, 1);
            Setups.trade(y, 2, 3, 0, 99, 1);
            due("a need of 0, funds below 0", buys(y, 0, 0, 1, 1), BookExchange.NONE);
        });
        Sentences.says("a quote if that with both its orders, in place of those of the quote before, would be.", () -> {
            for (int side = 0; side < 2; side++) {
                BookExchange x = Setups.open();
                x.setMove(0, 0, side == 0 ? -10 : 10);
                x.deposit(0, 60 - 1000000);
                due("7 are too many", x.quote(0, 0, 90, 110, 7), BookExchange.NONE);
                due("6 are not", x.quote(0, 0, 90, 110, 6), 0);
                due("6 in their place", x.quote(0, 0, 91, 109, 6), 2);
                due("7 in their place", x.quote(0, 0, 92, 108, 7), BookExchange.NONE);
                due("that before stays", x.state(2) + x.state(3), 2 * BookExchange.RESTING);
                due("none is numbered", x.orders(), 4);
                due("in another book there is no room", x.quote(0, 3, 0, 1, 1), BookExchange.NONE);
                due("3 in their place", x.quote(0, 0, 91, 109, 3), 4);
                due("3 in another book", x.quote(0, 3, 0, 1, 3), 6);
                due("one more here is too many", x.quote(0, 0, 91, 109, 4), BookExchange.NONE);
                due("nor there", x.quote(0, 3, 0, 1, 4), BookExchange.NONE);
                asks(side == 0, x, 0, 0, side == 0 ? 80 : 120, 1);
                due("an order beside them is refused", x.orders(), 8);
            }
            BookExchange y = Setups.open();
            y.setMove(0, 0, -10);
            y.setMove(1, 0, 10);
            y.deposit(0, 60 - 1000000);
            due("one side each", y.quote(0, 0, 90, 110, 6), 0);
        });
    }

    /** Member 0 bought 10 of the contract 0 at 100, from 1; it has 100 and a loss of 150: its funds are -50. */
    private static BookExchange broken() {
        BookExchange x = Setups.open();
        x.deposit(0, 100 - 1000000);
        Setups.trade(x, 0, 1, 0, 100, 10);
        Setups.trade(x, 3, 4, 0, 85, 1);
        return x;
    }

    private static void takeOvers() {
        Sentences.part("### Defaults");
        Sentences.says("When a member is put in default, all its orders are CANCELLED.", () -> {
            BookExchange x = broken();
            x.deposit(0, 50);
            BookExchange first = new BookExchange();
            first.call(2);
            first.order(0, 2, true, 100, 1, 1);
            first.call(0);
            first.order(0, 0, true, 100, 3, 3);
            first.order(1, 0, false, 100, 3, 3);
            first.uncross(0);
            first.setMove(0, 0, -1);
            first.fail(0);
            due("the very first one", first.state(0), BookExchange.CANCELLED);
            int rests = buys(x, 0, 1, 50, 4), quote = x.quote(0, 3, -5, 5, 2), waits = x.stop(0, 2, true, 50, 4, 120);
            x.call(4);
            int called = buys(x, 0, 4, 0, 3), other = buys(x, 1, 1, 40, 4);
            x.shut(4);
            x.setMove(0, 0, -1);
            x.fail(0);
            due("RESTING", x.state(rests) * 10 + x.left(rests), 34);
            due("WAITING", x.state(waits) * 10 + x.left(waits), 34);
            due("of a quote", x.state(quote) + x.state(quote + 1), 2 * BookExchange.CANCELLED);
            due("of a SHUT book", x.state(called), BookExchange.CANCELLED);
            due("DONE stays DONE", x.state(1), BookExchange.DONE);
            due("those of others stay", x.best(1, true), other);
        });
        Sentences.says("Of the members who have bid, are not it, not OUT,", () -> {
            BookExchange x = broken();
            x.bid(0, -900);
            due("it is none of them", x.fail(0), BookExchange.NONE);
            x = broken();
            due("nobody has bid", x.fail(0), BookExchange.NONE);
            x = broken();
            x.bid(0, -900);
            x.bid(5, 9);
            due("one has", x.fail(0), 5);
            due("one who has bid and is OUT is none of them", bidOfOneWhoIsOut(), BookExchange.NONE);
        });
        Sentences.says("and whose margin of their positions and its positions, together, would not be above their funds and the amount of the bid, together,", () -> {
            for (int more = 0; more < 2; more++) {
                BookExchange x = broken();
                x.setMove(1, 0, -20);
                x.deposit(5, 150 - 1000000);
                x.bid(5, 49 + more);
                due("200, and 150 with " + (49 + more), x.fail(0), more == 0 ? BookExchange.NONE : 5);
            }
            for (int more = 0; more < 2; more++) {
                BookExchange y = broken();
                y.setMove(1, 0, -20);
                y.deposit(1, -1000000 + 50);
                due("1 has sold what it would take over, and has gained", y.funds(1), 50 + 150);
                y.bid(1, -201 + more);
                due("no margin, and 200 less " + (201 - more), y.fail(0), more == 0 ? BookExchange.NONE : 1);
            }
        });
    }

    /** Member 2 has bid, and is put in default itself, then 0 is. */
    private static int bidOfOneWhoIsOut() {
        BookExchange x = broken();
        x.deposit(2, -1000000);
        Setups.trade(x, 2, 3, 1, 100, 1);
        Setups.trade(x, 3, 4, 1, 99, 1);
        x.bid(2, -100);
        due("2 fails first", x.fail(2), BookExchange.NONE);
        return x.fail(0);
    }

    private static void takenOver() {
        Sentences.says("the one with the least amount takes over its positions,", () -> {
            BookExchange x = broken();
            x.bid(2, 61);
            x.bid(3, 60);
            x.bid(4, 62);
            due("60", x.fail(0), 3);
            x = broken();
            x.bid(2, 0);
            x.bid(4, -1);
            x.bid(5, 1);
            due("below 0", x.fail(0), 4);
            due("its positions", x.position(4, 0) * 10 + x.position(0, 0), 90);
            x = broken();
            x.bid(2, 60);
            x.bid(3, 70);
            x.bid(2, 80);
            due("an earlier bid of 2 does not count", x.fail(0), 3);
        });
        Sentences.says("of several the lowest one:", () -> {
            BookExchange x = broken();
            x.bid(5, 60);
            x.bid(3, 60);
            x.bid(4, 60);
            x.bid(2, 61);
            due("of 3, 4 and 5", x.fail(0), 3);
        });
        Sentences.says("each of them passes to it by a trade at its mark, by rising contracts,", () -> {
            BookExchange x = Setups.open();
            Setups.trade(x, 1, 0, 2, 100, 3);
            Setups.trade(x, 0, 1, 0, 100, 4);
            x.deposit(0, 100 - 1000000);
            Setups.trade(x, 3, 4, 0, 60, 1);
            x.bid(2, 0);
            x.fail(0);
            dueTrade(x, 3, 0, 2, 0, 60, 4);
            dueTrade(x, 4, 2, 0, 2, 100, 3);
            due("none of the contract 1, of which it has nothing", x.trades(), 5);
            due("it has them", x.position(2, 0) * 10 + x.position(2, 2), 37);
            due("the one in default has none", x.position(0, 0) + x.position(0, 2), 0);
            due("so by trades", x.positionByTrades(0, 0) + x.positionByTrades(0, 2), 0);
        });
        Sentences.says("and the amount goes from the one in default to it.", () -> {
            BookExchange x = broken();
            x.bid(2, 60);
            x.fail(0);
            due("it is paid", x.cash(2), -850 + 60);
            due("by the other one's loss", x.uncovered(), 50 + 60);
            x = broken();
            x.bid(2, -30);
            x.fail(0);
            due("it pays", x.cash(2), -850 - 30);
            due("for a lesser loss", x.uncovered(), 50 - 30);
            x = broken();
            x.bid(2, 0);
            x.fail(0);
            due("0", x.cash(2) + x.uncovered(), -850 + 50);
        });
    }

    private static void tornUp() {
        Sentences.says("If there is none, each of its positions is torn up, by rising contracts:", () -> {
            BookExchange x = Setups.open();
            Setups.trade(x, 1, 0, 2, 100, 3);
            Setups.trade(x, 0, 1, 0, 100, 4);
            x.deposit(0, 100 - 1000000);
            x.setMove(0, 0, -500);
            due("nobody", x.fail(0), BookExchange.NONE);
            dueTrade(x, 2, 0, 1, 0, 100, 4);
            dueTrade(x, 3, 2, 0, 1, 100, 3);
            due("no more", x.trades(), 4);
            due("no position", x.position(0, 0) + x.position(0, 2), 0);
        });
        Sentences.says("other members whose positions in the contract have the other sign give up of them at the mark:", () -> {
            BookExchange x = Setups.open();
            Setups.trade(x, 0, 1, 0, 100, 3);
            Setups.trade(x, 5, 1, 0, 100, 3);
            Setups.trade(x, 3, 4, 1, 100, 7);
            x.deposit(0, -1000000);
            Setups.trade(x, 2, 4, 0, 98, 1);
            x.fail(0);
            due("the same sign gives up nothing", x.position(5, 0) + x.position(2, 0), 4);
            due("the other sign does", x.position(1, 0) + x.position(4, 0), -4);
            due("another contract is not touched", x.position(4, 1), -7);
            due("at the mark", x.trade(4, BookExchange.PRICE), 98);
            BookExchange y = Setups.open();
            Setups.trade(y, 1, 0, 0, 100, 3);
            y.deposit(0, -1000000);
            Setups.trade(y, 2, 4, 0, 103, 1);
            y.fail(0);
            // 2.25 and 0.75, and one more of the first.
            dueTrade(y, 2, 0, 0, 1, 103, 3);
            due("no more", y.trades(), 3);
        });
        Sentences.says("each its position, times that of the one in default, divided by all such positions together, all without signs, rounded down;", () -> {
            int[] one = torn(6, 4, 2, 6);
            due("6 of 12: the half of each", one[0] * 100 + one[1] * 10 + one[2], 213);
            one = torn(9, 4, 2, 6);
            due("9 of 12: 3, 1.5 and 4.5, and one more of the first", one[0] * 100 + one[1] * 10 + one[2], 414);
            one = torn(12, 4, 2, 6);
            due("all of them", one[0] * 100 + one[1] * 10 + one[2], 426);
            one = torn(5, 7, 0, 0);
            due("5 of one alone", one[0] * 100 + one[1] * 10 + one[2], 500);
        });
        Sentences.says("then, as long as something of it is left, each of them in turn, by rising numbers, gives up one more, that has some.", () -> {
            int[] one = torn(1, 1, 1, 1);
            due("1 of 3: the lowest", one[0] * 100 + one[1] * 10 + one[2], 100);
            one = torn(2, 1, 1, 1);
            due("2 of 3: the lowest two", one[0] * 100 + one[1] * 10 + one[2], 110);
            one = torn(7, 1, 3, 6);
            // 0.7, 2.1, 4.2: 0, 2 and 4, and one more of the first.
            due("7 of 10", one[0] * 100 + one[1] * 10 + one[2], 124);
            due("1 of 1 who has bought", tornShort(1), 0);
            due("2 of 1 and 1 who have", tornShort(2), 0);
            one = torn(5, 0, 3, 3);
            due("one that has none gives up none", one[0] * 100 + one[1] * 10 + one[2], 32);
        });
        Sentences.says("What each gives up is a trade with the one in default at the mark, by rising members.", () -> {
            BookExchange x = tornUp(3, 2, 0, 2);
            dueTrade(x, x.trades() - 2, 0, 1, 0, 100, 2);
            dueTrade(x, x.trades() - 1, 0, 3, 0, 100, 1);
            due("none of who gives up nothing", x.position(2, 0), 0);
            due("positions by trades", x.positionByTrades(1, 0) * 10 + x.positionByTrades(3, 0), -1);
        });
        Sentences.says("(These trades make no mark another one, and no book trades by them.)", () -> {
            for (int bids = 0; bids < 2; bids++) {
                BookExchange x = Setups.open();
                x.deposit(0, -1000000 + 100);
                Setups.trade(x, 0, 1, 0, 100, 10);
                Setups.trade(x, 3, 4, 0, 85, 1);
                int up = x.stop(5, 0, true, 1, 1, 1), down = x.stop(5, 0, false, 999, 1, 999);
                if (bids > 0) {
                    x.bid(2, 5);
                }
                x.fail(0);
                due("it traded", x.trades() > 2, true);
                due("no trigger is reached", x.state(up) + x.state(down), 0);
                due("the mark and the middle", x.mark(0) * 1000 + x.middle(0), 85100);
                x.call(1);
                x.uncross(1);
                due("nor later", x.state(up) + x.state(down), 0);
            }
        });
    }

    /** What 1, 2 and 3 give up of what they sold, when 0 has bought some of it. */
    private static int[] torn(int of, int... sold) {
        BookExchange x = tornUp(of, sold);
        int[] given = new int[3];
        for (int i = 0; i < 3; i++) {
            given[i] = sold[i] + x.position(i + 1, 0);
        }
        due("0 has none", x.position(0, 0), 0);
        return given;
    }

    /** What 1 and 2 have together behind a tear-up, who have bought 1 each, all of it from 0 or the rest from 5. */
    private static int tornShort(int by0) {
        BookExchange x = Setups.open();
        Setups.trade(x, 1, 0, 0, 100, 1);
        if (by0 > 1) {
            Setups.trade(x, 2, 0, 0, 100, 1);
        }
        x.deposit(0, -1000000);
        x.setMove(0, 0, 1);
        due("nobody takes over", x.fail(0), BookExchange.NONE);
        due("0 has none", x.position(0, 0), 0);
        return x.position(1, 0) + x.position(2, 0);
    }

    private static BookExchange tornUp(int of, int... sold) {
        BookExchange x = Setups.open();
        int rest = of;
        for (int i = 0; i < 3; i++) {
            int by0 = Math.min(rest, sold[i]);
            if (by0 > 0) {
                Setups.trade(x, 0, i + 1, 0, 100, by0);
            }
            if (by0 < sold[i]) {
                Setups.trade(x, 5, i + 1, 0, 100, sold[i] - by0);
            }
            rest -= by0;
        }
        x.deposit(0, -1000000);
        x.setMove(0, 0, -1);
        due("nobody takes over", x.fail(0), BookExchange.NONE);
        return x;
    }

    private static void bidsGone() {
        Sentences.says("All bids are gone then.", () -> {
            BookExchange x = broken();
            x.bid(2, 60);
            x.bid(4, 70);
            x.fail(0);
            due("that of who takes over, and the others", x.bid(5, 1), 1);
            BookExchange y = broken();
            y.bid(0, 0);
            y.deposit(5, -1000000);
            y.setMove(0, 0, -1);
            y.bid(5, 9);
            due("nobody takes over", y.fail(0), BookExchange.NONE);
            due("they are gone too", y.bid(4, 1), 1);
        });
    }

    private static void losses() {
        Sentences.says("If the funds of the one in default are below 0 then, what they are below is the loss.", () -> {
            for (int funds = -1; funds < 2; funds++) {
                BookExchange x = broken();
                x.deposit(0, 50);
                x.setMove(0, 0, -1);
                x.setShare(0, 5);
                x.setShare(1, 5);
                x.setCapital(5);
                x.bid(2, -funds);
                due("funds of 0 and a margin of 10", x.fail(0), 2);
                due("a loss of " + Math.max(0, -funds) + ": no others pay", x.capital() + x.share(1) + x.uncovered(), 10);
                BookExchange y = broken();
                y.deposit(0, 50);
                y.setMove(0, 0, -1);
                y.bid(2, -funds);
                y.fail(0);
                due("funds of " + funds, y.uncovered(), funds < 0 ? 1 : 0);
            }
        });
        Sentences.says("It is taken from its share in the fund;", () -> {
            for (int share = 49; share < 52; share++) {
                BookExchange x = broken();
                x.setShare(0, share);
                x.setShare(1, 100);
                x.setCapital(100);
                x.fail(0);
                due("50 of a share of " + share, x.capital(), share < 50 ? 99 : 100);
                due("not of others", x.share(1) + x.uncovered(), 100);
            }
        });
        Sentences.says("what is left, from the capital of the house;", () -> {
            for (int capital = 29; capital < 32; capital++) {
                BookExchange x = broken();
                x.setShare(0, 20);
                x.setShare(1, 100);
                x.setCapital(capital);
                x.fail(0);
                due("30 of a capital of " + capital, x.capital(), capital < 31 ? 0 : 1);
                due("not of others", x.share(1), capital < 30 ? 99 : 100);
                due("nothing is uncovered", x.uncovered(), 0);
            }
        });
        Sentences.says("what is left, from the shares of the others who are not OUT:", () -> {
            BookExchange x = broken();
            x.setShare(5, 30);
            x.setShare(2, 70);
            x.fail(0);
            due("50 of them", x.share(2) + x.share(5), 50);
            due("its own is 0", x.share(0), 0);
            BookExchange y = broken();
            y.setShare(0, 10);
            y.setShare(2, 500);
            Setups.trade(y, 2, 3, 1, 100, 1);
            y.deposit(2, -1000000);
            y.setMove(4, 1, -500);
            y.fail(2);
            y.setMove(4, 1, 0);
            y.setShare(3, 7);
            y.fail(0);
            due("one who is OUT has no share to take", y.share(2) * 10 + y.share(3), 0);
            due("so 33 are uncovered", y.uncovered(), 50 - 10 - 7);
        });
        Sentences.says("each as much as this, or as all these shares together, if that is less, times its share, divided by all these shares together, rounded down;", () -> {
            due("50 of 100", shared(60, 20, 10, 10), 30100505);
            due("50 of 110: 13.6, 4.5, 0, 27.3, 4.5, and two more", shared(30, 10, 60, 10), 16053306);
            due("all of 50", shared(20, 20, 5, 5), 0);
            due("all of 49", shared(20, 20, 5, 4), 0);
            due("50 of 51: 20.6, 19.6, 5.9 and 3.9, and three more", shared(21, 20, 6, 4), 1);
            due("50 of one alone", shared(99, 0, 0, 0), 49000000);
            due("50 of as much", shared(50, 0, 0, 0), 0);
            due("50 of 1", shared(1, 0, 0, 0), 0);
            due("50 of none", shared(0, 0, 0, 0), 0);
        });
        Sentences.says("then each of them in turn, by rising numbers, one more, that has some, until that is taken;", () -> {
            // 50 of 150: a third of each, rounded down 16, 16, 16 and 0; one more each of the first two.
            BookExchange x = broken();
            x.setShare(2, 50);
            x.setShare(3, 50);
            x.setShare(4, 50);
            x.fail(0);
            due("two more", x.share(2) * 10000 + x.share(3) * 100 + x.share(4), 333334);
            BookExchange y = broken();
            y.setShare(3, 1);
            y.setShare(4, 1);
            y.setShare(5, 98);
            y.fail(0);
            // 0.5, 0.5 and 49: one more of the first.
            due("one more of 3, 1 having none", y.share(3) * 10000 + y.share(4) * 100 + y.share(5), 149);
            due("all is taken", y.uncovered(), 0);
        });
        Sentences.says("what is left then is uncovered.", () -> {
            for (int share = 29; share < 32; share++) {
                BookExchange x = broken();
                x.setShare(0, 10);
                x.setCapital(10);
                x.setShare(4, share);
                x.fail(0);
                due("30 of " + share, x.uncovered(), share < 30 ? 1 : 0);
                due("what stays", x.share(4), share < 31 ? 0 : 1);
            }
            BookExchange x = broken();
            x.fail(0);
            due("all of it", x.uncovered(), 50);
        });
        Sentences.says("The member is OUT then, its cash, its collateral and its share are 0.", () -> {
            BookExchange x = broken();
            x.deposit(0, 5000);
            x.setMove(0, 0, -500);
            x.setShare(0, 9);
            due("it has funds of 4950, and a margin of 5000", x.fail(0), BookExchange.NONE);
            due("OUT", x.isOut(0), true);
            due("nobody else is", x.isOut(1) || x.isOut(5), false);
            due("cash", x.cash(0), 0);
            due("collateral: no funds", x.funds(0), 0);
            due("share, though there was no loss", x.share(0), 0);
            due("nor is anything uncovered", x.uncovered(), 0);
            throwsIt("it is OUT for good", STATE, () -> x.deposit(0, 1));
        });
    }

    /** What stays of shares of 1 to 4 behind a loss of 50, two digits each. */
    private static int shared(int... shares) {
        BookExchange x = broken();
        int digits = 0;
        for (int i = 0; i < 4; i++) {
            x.setShare(i + 1, shares[i]);
        }
        x.fail(0);
        for (int i = 0; i < 4; i++) {
            digits = digits * 100 + x.share(i + 1);
        }
        return digits;
    }

    private static void exceptions() {
        WrongCalls.sentences();
    }
}
