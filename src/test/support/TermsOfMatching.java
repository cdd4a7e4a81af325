/** The Terms' "Matching", sentence by sentence. */
final class TermsOfMatching extends Shorthand {
    private TermsOfMatching() {
    }

    static void all() {
        howLong();
        bestWays();
        ownOrders();
        bands();
        halts();
        sizes();
        sharesTake();
        sharesDivide();
        sharesByStamps();
    }

    private static void howLong() {
        Sentences.part("### Matching");
        Sentences.says("To match an order is this, as long as something is left of it,", () -> {
            BookExchange x = Setups.open();
            sells(x, 1, 0, 100, 5);
            int own = sells(x, 0, 0, 100, 5);
            int next = sells(x, 2, 0, 100, 5);
            x.now(0, 0, true, 100, 5);
            due("with nothing left the next order is not looked at", x.state(own), BookExchange.RESTING);
            x.now(0, 0, true, 100, 1);
            due("with 1 left it is", x.state(own), BookExchange.CANCELLED);
            due("and the one behind it too", x.left(next), 4);
            BookExchange y = Setups.open();
            y.setBand(0, 100, 0);
            sells(y, 1, 0, 100, 5);
            sells(y, 1, 0, 101, 5);
            y.now(2, 0, true, 101, 5);
            due("with nothing left no book is HALTED", y.phase(0), BookExchange.OPEN);
            sells(y, 1, 0, 100, 5);
            y.now(2, 0, true, 101, 6);
            due("with 1 left it is", y.phase(0), BookExchange.HALTED);
        });
        Sentences.says("and there are fewer than 1500 trades:", () -> {
            BookExchange x = with1499Trades();
            x.order(0, 0, false, 100, 4, 1);
            int last = x.order(1, 0, true, 100, 3, 3);
            due("from 1499 one more", x.trades(), 1500);
            due("the rest rests, crossing", x.state(last) * 10 + x.left(last), 12);
            int none = x.now(2, 0, true, 100, 1);
            due("from 1500 none", x.trades(), 1500);
            due("an order for now is CANCELLED", x.state(none) * 10 + x.left(none), 31);
            int own = x.now(0, 0, true, 100, 1);
            due("nor is one's own order CANCELLED", x.state(own - 3), BookExchange.RESTING);
            x.setBand(0, 500, 0);
            x.now(2, 0, true, 100, 1);
            due("nor a book HALTED", x.phase(0), BookExchange.OPEN);
            x.bust(0);
            x.now(2, 0, true, 100, 1);
            due("a busted one counts", x.trades(), 1500);
        });
    }

    private static BookExchange with1499Trades() {
        BookExchange x = Setups.open();
        for (int i = 0; i < 15; i++) {
            x.order(0, 0, false, 100, 100, 1);
            x.now(1, 0, true, 100, i < 14 ? 100 : 99);
        }
        x.cancel(28);
        due("trades to begin with", x.trades(), 1499);
        return x;
    }

    private static void bestWays() {
        Sentences.says("the best way for it is looked for.", () -> {
            BookExchange x = Setups.open();
            sells(x, 1, 0, 100, 2);
            sells(x, 2, 3, 5, 1);
            sells(x, 3, 1, 94, 1);
            sells(x, 4, 1, 96, 1);
            int order = buys(x, 5, 0, 101, 5);
            // 99 by the way 1, then 100 by the way 0; the spread is gone then.
            dueTrade(x, 0, 0, 5, 2, 99, 1);
            dueTrade(x, 1, 1, 2, 3, 94, 1);
            dueTrade(x, 2, 0, 5, 1, 100, 2);
            due("that is all", x.trades() * 10 + x.left(order), 32);
            BookExchange y = Setups.open();
            y.order(2, 3, false, 5, 3, 1);
            sells(y, 3, 1, 94, 1);
            sells(y, 4, 1, 96, 1);
            sells(y, 1, 0, 100, 1);
            y.now(5, 0, true, 101, 3);
            due("in each step anew", y.trade(0, BookExchange.PRICE) * 1000 + y.trade(2, BookExchange.PRICE), 99100);
            due("the way 1 again", y.trade(3, BookExchange.PRICE), 101);
        });
        Sentences.says("If there is none,", () -> {
            BookExchange x = Setups.open();
            for (int b = 0; b < 5; b++) {
                int order = buys(x, 0, b, b < 3 ? 999 : 500, 7);
                due("it rests as it came", x.state(order) * 10 + x.left(order), 17);
                x.cancel(order);
            }
            due("without a trade", x.trades(), 0);
        });
        Sentences.says("or its price is worse for the order than its own, the matching ends.", () -> {
            for (int b = 0; b < 5; b++) {
                int at = b < 3 ? 100 : 0;
                BookExchange x = Setups.open();
                sells(x, 1, b, at, 2);
                x.now(2, b, true, at - 1, 1);
                due("1 less to buy", x.trades(), 0);
                x.now(2, b, true, at, 1);
                due("as much to buy", x.left(0), 1);
                x.now(2, b, true, at + 1, 1);
                due("1 more to buy", x.left(0), 0);
                int buy = buys(x, 1, b, at, 2);
                x.now(2, b, false, at + 1, 1);
                due("1 more to sell", x.left(buy), 2);
                x.now(2, b, false, at, 1);
                due("as much to sell", x.left(buy), 1);
                x.now(2, b, false, at - 1, 1);
                due("1 less to sell", x.left(buy), 0);
            }
            BookExchange x = Setups.open();
            sells(x, 1, 0, 100, 1);
            sells(x, 1, 0, 102, 1);
            due("what is left rests at a worse price", x.left(buys(x, 2, 0, 101, 2)), 1);
        });
    }

    private static void ownOrders() {
        Sentences.says("If some of the orders taken are of the member of the order, these are CANCELLED, and that is all of this step.", () -> {
            BookExchange x = Setups.open();
            int own = sells(x, 0, 0, 100, 3);
            int other = sells(x, 1, 0, 100, 3);
            int ownBehind = sells(x, 0, 0, 101, 3);
            x.now(0, 0, true, 101, 2);
            due("the own one is CANCELLED with all that is left", x.state(own) * 10 + x.left(own), 33);
            due("the next step trades", x.left(other), 1);
            due("what is not reached stays", x.state(ownBehind), BookExchange.RESTING);
            BookExchange y = Setups.open();
            int spread = sells(y, 0, 3, 5, 3);
            int contract = sells(y, 1, 1, 95, 3);
            int order = buys(y, 0, 0, 100, 3);
            due("of a way the own one alone", y.state(spread) * 10 + y.state(contract), 31);
            due("of which nothing is traded", y.trades() * 100 + y.left(contract) * 10 + y.left(order), 33);
            y.cancel(order);
            sells(y, 2, 3, 5, 3);
            int second = sells(y, 1, 0, 101, 3);
            y.cancel(second);
            y.now(1, 0, true, 100, 3);
            due("the one at the other end", y.state(contract) * 10 + y.trades(), 30);
            BookExchange z = Setups.open();
            int a = sells(z, 0, 0, 105, 1), b = buys(z, 0, 1, 95, 1);
            z.now(0, 3, true, 10, 1);
            due("both, if both are", z.state(a) * 10 + z.state(b), 33);
            BookExchange far = Setups.open();
            far.setBand(0, 500, 0);
            int ownFar = sells(far, 0, 0, 100, 1);
            buys(far, 0, 0, 100, 1);
            due("ahead of a halt", far.state(ownFar) * 10 + far.phase(0), 32);
        });
    }

    private static void bands() {
        Sentences.says("Otherwise, if a contract would be traded at a price that is farther from its middle than its band", () -> {
            for (int side = 0; side < 2; side++) {
                boolean isBuy = side == 0;
                for (int c = 0; c < 3; c++) {
                    int[] prices = {95, 105, 94, 106};
                    for (int k = 0; k < 4; k++) {
                        BookExchange x = Setups.open();
                        x.setBand(c, 100, 5);
                        asks(!isBuy, x, 1, c, prices[k], 1);
                        x.now(2, c, isBuy, prices[k], 1);
                        due("at " + prices[k], x.trades() * 10 + x.phase(c), k < 2 ? 12 : 3);
                    }
                    BookExchange x = Setups.open();
                    x.setBand(c, 100, 0);
                    asks(!isBuy, x, 1, c, 100, 1);
                    x.now(2, c, isBuy, 100, 1);
                    due("a band of 0, at the middle", x.trades(), 1);
                    asks(!isBuy, x, 1, c, 101, 1);
                    x.now(2, c, isBuy, isBuy ? 999 : 1, 1);
                    due("a band of 0, by its side", x.trades() * 10 + x.phase(c), 13);
                }
            }
            for (int c = 0; c < 3; c++) {
                int away = c == 2 ? 10 : 5;
                due("contract " + c + " of a way of three, at its edge", chained(c, away), BookExchange.OPEN);
                due("contract " + c + " of a way of three, beyond", chained(c, away - 1), BookExchange.HALTED);
                if (c < 2) {
                    due("contract " + c + " of the way 1 of a spread, at its edge", bySpread(c, 5), BookExchange.OPEN);
                    due("contract " + c + " of the way 1 of a spread, beyond", bySpread(c, 4), BookExchange.HALTED);
                }
            }
        });
        Sentences.says("(but for the two contracts of the way 0 of a spread, which do not matter),", () -> {
            for (int k = 0; k < 2; k++) {
                for (int side = 0; side < 2; side++) {
                    BookExchange x = Setups.open();
                    x.setBand(k, 999, 0);
                    x.setBand(k + 1, 999, 0);
                    asks(side != 0, x, 1, 3 + k, 300, 1);
                    x.now(2, 3 + k, side == 0, 300, 1);
                    due("both trade", x.trades(), 2);
                    due("no book is HALTED", x.phase(k) + x.phase(k + 1), 2 * BookExchange.OPEN);
                }
            }
        });
    }

    /** What the book of a contract is when 0, 1 and 2 would trade at 105, 95 and 90, by the way 2 of the book 0. */
    private static int chained(int contract, int band) {
        BookExchange x = Setups.open();
        x.setBand(contract, 100, band);
        sells(x, 1, 3, 10, 1);
        sells(x, 2, 4, 5, 1);
        sells(x, 3, 2, 90, 1);
        x.now(4, 0, true, 105, 1);
        due("trades, if not HALTED", x.trades(), x.phase(contract) == BookExchange.OPEN ? 3 : 0);
        return x.phase(contract);
    }

    /** The same for 0 and 1 at 105 and 95, by the way 1 of the book 3. */
    private static int bySpread(int contract, int band) {
        BookExchange x = Setups.open();
        x.setBand(contract, 100, band);
        sells(x, 1, 0, 105, 1);
        buys(x, 2, 1, 95, 1);
        x.now(4, 3, true, 10, 1);
        due("trades, if not HALTED", x.trades(), x.phase(contract) == BookExchange.OPEN ? 2 : 0);
        return x.phase(contract);
    }

    private static void halts() {
        Sentences.says("the book of the lowest such contract is HALTED,", () -> {
            for (int lowest = 0; lowest < 3; lowest++) {
                BookExchange x = Setups.open();
                for (int c = lowest; c < 3; c++) {
                    x.setBand(c, 500, 0);
                }
                buys(x, 1, 4, 6, 1);
                buys(x, 2, 3, 11, 1);
                sells(x, 3, 0, 110, 1);
                x.now(4, 2, true, 93, 1);
                due("the lowest one", x.phase(lowest), BookExchange.HALTED);
                for (int c = 0; c < 3; c++) {
                    due("the others not", c == lowest || x.phase(c) == BookExchange.OPEN, true);
                }
                due("no spread is", x.phase(3) + x.phase(4), 2 * BookExchange.OPEN);
            }
        });
        Sentences.says("whatever it was,", () -> {
            for (int phase = 0; phase < 4; phase++) {
                BookExchange x = aroundBook1();
                if (phase == BookExchange.SHUT) {
                    x.shut(1);
                } else if (phase == BookExchange.CALL) {
                    x.call(1);
                } else if (phase == BookExchange.HALTED) {
                    x.setBand(1, 500, 0);
                    Setups.trade(x, 1, 2, 1, 100, 1);
                }
                due("it was", x.phase(1), phase);
                x.setBand(1, 500, 0);
                x.now(0, 0, true, 200, 1);
                due("it is", x.phase(1), BookExchange.HALTED);
                due("and nothing is traded", x.trades(), 0);
            }
        });
        Sentences.says("and nothing is traded in this step;", () -> {
            BookExchange x = aroundBook1();
            x.setBand(1, 500, 0);
            int order = buys(x, 0, 0, 149, 7);
            due("no trade", x.trades(), 0);
            due("nothing is taken", x.left(0) * 1000 + x.left(1) * 100 + x.left(2) * 10 + x.left(order), 9997);
            due("nor from what they show", x.shows(0) * 100 + x.shows(1) * 10 + x.shows(2), 999);
            due("the marks stay", x.mark(0) + x.mark(1) + x.mark(2), 300);
        });
        Sentences.says("the matching ends, if it is the book of the order,", () -> {
            BookExchange x = Setups.open();
            x.setBand(0, 100, 10);
            sells(x, 1, 0, 50, 1);
            sells(x, 2, 3, 5, 1);
            sells(x, 3, 1, 90, 1);
            x.order(4, 0, true, 99, 1, 1);
            due("HALTED at 50", x.phase(0), BookExchange.HALTED);
            due("the way 1 at 95 is not taken", x.trades(), 0);
        });
        Sentences.says("or none of those of the orders taken.", () -> {
            BookExchange x = aroundBook1();
            x.setBand(1, 500, 0);
            sells(x, 4, 0, 150, 1);
            x.now(0, 0, true, 200, 1);
            due("the book 1 is none of them: the way 0 at 150 is not taken", x.trades(), 0);
            BookExchange y = Setups.open();
            y.setBand(1, 500, 0);
            sells(y, 1, 3, 10, 1);
            sells(y, 2, 1, 92, 1);
            sells(y, 4, 0, 150, 1);
            y.now(0, 0, true, 200, 1);
            due("the book 1 is HALTED", y.phase(1), BookExchange.HALTED);
            due("it is one of them: then the way 0 at 150 is taken", y.trades(), 1);
            dueTrade(y, 0, 0, 0, 4, 150, 1);
            BookExchange z = Setups.open();
            z.setBand(0, 500, 0);
            sells(z, 1, 0, 105, 1);
            buys(z, 2, 1, 100, 1);
            sells(z, 3, 3, 8, 1);
            z.now(4, 3, true, 8, 1);
            due("the first one of them: then the way 0 of the spread is taken", z.trades() * 10 + z.phase(0), 23);
        });
    }

    /** Orders that let the book 0 buy at 102 by 3, 4 and 2, the contract 1 between them at 92. */
    private static BookExchange aroundBook1() {
        BookExchange x = Setups.open();
        sells(x, 1, 3, 10, 9);
        sells(x, 2, 4, 2, 9);
        sells(x, 3, 2, 90, 9);
        return x;
    }

    private static void sizes() {
        Sentences.says("Otherwise the order and those taken trade, by a size that is the least one of what is left of the order and of what each one taken shows.", () -> {
            for (int least = 0; least < 4; least++) {
                BookExchange x = Setups.open();
                int[] shown = {4, 4, 4, 4};
                shown[least] = 3;
                x.order(1, 3, false, 10, 9, shown[1]);
                x.order(2, 4, false, 2, 9, shown[2]);
                x.order(3, 2, false, 90, 9, shown[3]);
                x.now(0, 0, true, 102, shown[0]);
                for (int t = 0; t < 3; t++) {
                    due("the least one is " + least, x.trade(t, BookExchange.SIZE), 3);
                }
                due("a second step trades what is left", x.trades(), least == 0 ? 3 : 6);
            }
            BookExchange x = Setups.open();
            x.order(1, 0, false, 100, 5, 2);
            x.now(0, 0, true, 100, 4);
            due("by the way 0 what is shown", x.trade(0, BookExchange.SIZE) * 10 + x.trade(1, BookExchange.SIZE), 22);
            x.now(0, 0, true, 100, 1);
            due("at the least 1", x.trade(2, BookExchange.SIZE) * 10 + x.trades(), 13);
        });
    }

    /** Members 1, 2 and so on sell what is told in the book 2, by shares, at 100. */
    private static BookExchange byShares(int... sizes) {
        BookExchange x = Setups.open();
        x.setShares(2, true);
        for (int i = 0; i < sizes.length; i++) {
            sells(x, i + 1, 2, 100, sizes[i]);
        }
        return x;
    }

    /** The sizes of all trades, one digit each. */
    private static int sizes(BookExchange x) {
        int digits = 0;
        for (int t = 0; t < x.trades(); t++) {
            digits = digits * 10 + x.trade(t, BookExchange.SIZE);
        }
        return digits;
    }

    /** What is left of the first orders, one digit each. */
    private static int lefts(BookExchange x, int count) {
        int digits = 0;
        for (int i = 0; i < count; i++) {
            digits = digits * 10 + x.left(i);
        }
        return digits;
    }

    private static void sharesTake() {
        Sentences.says("The way 0 in a book that matches by shares is different: it takes all resting orders of the price of the best one, on its side.", () -> {
            BookExchange x = byShares(1, 4, 4);
            sells(x, 4, 2, 101, 4);
            buys(x, 5, 2, 99, 4);
            x.now(0, 2, true, 101, 5);
            due("all of that price", lefts(x, 5), 2244);
            x.now(0, 2, true, 101, 6);
            due("then those of the next one", lefts(x, 5), 24);
            BookExchange y = byShares(7);
            y.now(0, 2, true, 100, 3);
            due("one alone", y.left(0), 4);
            BookExchange z = Setups.open();
            z.setShares(1, true);
            sells(z, 1, 3, 5, 9);
            sells(z, 2, 1, 95, 1);
            sells(z, 3, 1, 95, 8);
            z.now(0, 0, true, 100, 2);
            due("another way takes the best one", z.left(1) * 10 + z.left(2), 7);
            due("step by step", z.trades(), 4);
        });
        Sentences.says("If some of them are of the member of the order, these are CANCELLED, and that is all of this step;", () -> {
            BookExchange x = byShares(2, 3, 4);
            int own = sells(x, 3, 2, 100, 5);
            int ownFar = sells(x, 3, 2, 101, 5);
            x.now(3, 2, true, 101, 1);
            due("all own ones of that price", x.state(2) * 10 + x.state(own), 33);
            due("not those of another one", x.state(ownFar), BookExchange.RESTING);
            due("the others trade in the next step", x.left(0) * 10 + x.left(1), 13);
            BookExchange y = byShares();
            int alone = sells(y, 3, 2, 100, 5);
            due("none is left then", y.left(buys(y, 3, 2, 100, 2)), 2);
            due("but CANCELLED", y.state(alone), BookExchange.CANCELLED);
        });
        Sentences.says("a halt is as told.", () -> {
            BookExchange x = byShares(2, 3);
            x.setBand(2, 95, 5);
            x.now(0, 2, true, 100, 1);
            due("at the edge it trades", x.trades() * 10 + x.phase(2), 12);
            x.setBand(2, 95, 4);
            x.now(0, 2, true, 100, 1);
            due("beyond it is HALTED", x.trades() * 10 + x.phase(2), 13);
            BookExchange y = Setups.open();
            y.setShares(3, true);
            y.setBand(0, 500, 0);
            y.setBand(1, 500, 0);
            sells(y, 1, 3, 5, 1);
            y.now(2, 3, true, 5, 1);
            due("but for spreads", y.trades(), 2);
        });
    }

    private static void sharesDivide() {
        Sentences.says("The size is the lesser one of what is left of the order and of what all of them show together.", () -> {
            BookExchange x = byShares(2, 3);
            due("less than they show", x.left(x.now(0, 2, true, 100, 4)) * 100 + lefts(x, 2), 1);
            x = byShares(2, 3);
            due("as much", x.left(x.now(0, 2, true, 100, 5)) * 100 + lefts(x, 2), 0);
            x = byShares(2, 3);
            due("more", x.left(x.now(0, 2, true, 100, 6)) * 100 + lefts(x, 2), 100);
            BookExchange y = Setups.open();
            y.setShares(2, true);
            y.order(1, 2, false, 100, 9, 2);
            y.order(2, 2, false, 100, 9, 3);
            y.now(0, 2, true, 100, 6);
            due("what they show, not what is left", y.trade(0, BookExchange.SIZE) * 10 + y.trade(1, BookExchange.SIZE), 23);
            due("the rest by another step", y.trade(2, BookExchange.SIZE) * 10 + y.trades(), 13);
        });
        Sentences.says("By stamps: the first one trades the lesser one of what it shows and of the size;", () -> {
            BookExchange x = byShares(4, 4);
            x.now(0, 2, true, 100, 3);
            due("the size", lefts(x, 2), 14);
            x = byShares(4, 4);
            x.now(0, 2, true, 100, 4);
            due("both alike", lefts(x, 2), 4);
            x = byShares(4, 4);
            x.now(0, 2, true, 100, 5);
            due("what it shows", lefts(x, 2), 3);
            BookExchange y = Setups.open();
            y.setShares(2, true);
            y.order(1, 2, false, 100, 6, 2);
            sells(y, 2, 2, 100, 2);
            y.now(0, 2, true, 100, 2);
            y.now(0, 2, true, 100, 1);
            due("by stamps, not by numbers", lefts(y, 2), 41);
        });
        Sentences.says("each other one the rest of the size, times what it shows, divided by what all but the first one show together, rounded down;", () -> {
            BookExchange x = byShares(2, 3, 6, 9);
            x.now(0, 2, true, 100, 2 + 6);
            due("6 of 18: a third of each", lefts(x, 4), 246);
            x = byShares(1, 9, 1);
            x.now(0, 2, true, 100, 10);
            // 9 of 10: 8.1 and 0.9, rounded down 8 and 0; the one more is the second one's.
            due("rounded down", lefts(x, 3), 1);
            x = byShares(3, 5);
            x.now(0, 2, true, 100, 4);
            due("of one other all the rest", lefts(x, 2), 4);
        });
        Sentences.says("then, as long as something of the size is not traded, each of them in turn trades one more, that shows more than it trades so far.", () -> {
            BookExchange x = byShares(2, 3, 4);
            x.now(0, 2, true, 100, 7);
            // 5 of 7: 2.1 and 2.9; the first one has traded all it shows.
            due("one more of the second one", lefts(x, 3), 2);
            dueTrade(x, 1, 2, 0, 2, 100, 3);
            dueTrade(x, 2, 2, 0, 3, 100, 2);
            due("by the same trade, in one step", x.trades(), 3);
            x = byShares(1, 2, 2, 2, 2);
            x.now(0, 2, true, 100, 7);
            // 6 of 8: 1.5 each, rounded down 1.
            due("one more each of two", sizes(x), 12211);
            x = byShares(5, 1, 1, 1, 1);
            x.now(0, 2, true, 100, 7);
            due("2 of 4: one each of two", lefts(x, 5), 11);
            due("nothing is no trade", x.trades(), 3);
            x = byShares(1, 1, 1, 1, 1);
            x.now(0, 2, true, 100, 4);
            due("3 of 4", lefts(x, 5), 1);
            x = byShares(1, 5, 5);
            x.now(0, 2, true, 100, 5);
            due("4 of 10 leaves nothing over", lefts(x, 3), 33);
        });
    }

    private static void sharesByStamps() {
        Sentences.says("By stamps they trade then, one behind the other,", () -> {
            BookExchange x = Setups.open();
            x.setShares(2, true);
            x.order(1, 2, false, 100, 6, 2);
            sells(x, 2, 2, 100, 3);
            sells(x, 3, 2, 100, 4);
            x.now(0, 2, true, 100, 2);
            x.now(4, 2, true, 100, 9);
            dueTrade(x, 1, 2, 4, 2, 100, 3);
            dueTrade(x, 2, 2, 4, 3, 100, 4);
            dueTrade(x, 3, 2, 4, 1, 100, 2);
            due("that is all", x.trades(), 4);
        });
        Sentences.says("and what shows anew gets its stamp in that order.", () -> {
            BookExchange x = Setups.open();
            x.setShares(2, true);
            for (int i = 0; i < 3; i++) {
                x.order(i + 1, 2, false, 100, 8, 2);
            }
            x.now(0, 2, true, 100, 2);
            due("the first one alone goes behind", x.best(2, false), 1);
            x.now(0, 2, true, 100, 6);
            due("all of them, in the order of their stamps", x.best(2, false), 1);
            x.cancel(1);
            due("the third one next", x.best(2, false), 2);
            x.cancel(2);
            due("the first one last", x.best(2, false), 0);
            due("each shows anew", x.shows(0), 2);
        });
    }
}
