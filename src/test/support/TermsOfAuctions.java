/** The Terms' "Auctions" and "Quotes", sentence by sentence. */
final class TermsOfAuctions extends Shorthand {
    private TermsOfAuctions() {
    }

    static void all() {
        prices();
        choices();
        trading();
        behind();
        quotes();
        protections();
        lookedAt();
    }

    /** A book in a CALL, with orders: buy prices and sizes, and sell prices and sizes. */
    private static BookExchange called(int book, int mark, int[] buys, int[] sells) {
        BookExchange x = Setups.open();
        if (book < 3 && mark != 100) {
            Setups.trade(x, 4, 5, book, mark, 1);
        }
        x.call(book);
        for (int i = 0; i < buys.length; i += 2) {
            buys(x, i / 2, book, buys[i], buys[i + 1]);
        }
        for (int i = 0; i < sells.length; i += 2) {
            sells(x, i / 2 + 2, book, sells[i], sells[i + 1]);
        }
        return x;
    }

    private static int[] of(int... numbers) {
        return numbers;
    }

    /** The price of an auction that trades the size that is told; or of none. */
    private static void duePrice(String what, BookExchange x, int book, int price, int size) {
        due(what + ": the price", x.auction(book), price);
        due(what + ": the size", x.uncross(book), size);
        due(what + ": the book is OPEN", x.phase(book), BookExchange.OPEN);
    }

    private static void prices() {
        Sentences.part("### Auctions");
        Sentences.says("To uncross a book that is in a CALL, or HALTED:", () -> {
            BookExchange x = called(0, 100, of(100, 3), of(100, 3));
            duePrice("in a CALL", x, 0, 100, 3);
            BookExchange y = Setups.open();
            y.setBand(1, 500, 0);
            sells(y, 0, 1, 100, 2);
            buys(y, 1, 1, 100, 2);
            due("it is HALTED", y.phase(1), BookExchange.HALTED);
            duePrice("HALTED", y, 1, 100, 2);
            throwsIt("OPEN", STATE, () -> y.uncross(1));
            y.shut(1);
            throwsIt("SHUT", STATE, () -> y.uncross(1));
        });
        Sentences.says("for each price that one of its resting orders has,", () -> {
            duePrice("between two prices is none", called(0, 100, of(110, 5), of(90, 5)), 0, 90, 5);
            BookExchange x = called(0, 100, of(110, 5, 100, 1), of(90, 5));
            x.cancel(1);
            duePrice("nor is that of a CANCELLED one", x, 0, 90, 5);
            BookExchange y = called(0, 100, of(110, 5), of(90, 5));
            y.stop(3, 0, true, 100, 5, 100);
            buys(y, 3, 1, 100, 5);
            duePrice("nor that of a WAITING one, or of another book", y, 0, 90, 5);
            // At 90 and 99: 6 and 5; at 101 and 110: 5 and 6.
            duePrice("that of an order that does not trade", called(0, 100, of(110, 5, 99, 1), of(90, 5, 101, 1)), 0, 99, 5);
            duePrice("an empty book", called(0, 100, of(), of()), 0, BookExchange.NO_PRICE, 0);
        });
        Sentences.says("the size is the lesser one of what is left of all those that buy at this price or more, and of what is left of all those that sell at it or less,", () -> {
            duePrice("less to buy", called(0, 100, of(100, 2), of(100, 3)), 0, 100, 2);
            duePrice("less to sell", called(0, 100, of(100, 3), of(100, 2)), 0, 100, 2);
            duePrice("more to buy, and less to sell", called(0, 100, of(100, 3, 101, 4), of(100, 5, 99, 1)), 0, 100, 6);
            duePrice("1 below is not enough", called(0, 100, of(99, 5), of(100, 5)), 0, BookExchange.NO_PRICE, 0);
            duePrice("one side alone", called(0, 100, of(100, 5), of()), 0, BookExchange.NO_PRICE, 0);
            duePrice("the other one alone", called(0, 100, of(), of(100, 5)), 0, BookExchange.NO_PRICE, 0);
            BookExchange x = Setups.open();
            x.call(0);
            x.order(0, 0, true, 100, 9, 1);
            x.order(1, 0, false, 100, 8, 1);
            duePrice("what is left, not what is shown", x, 0, 100, 8);
        });
    }

    private static void choices() {
        Sentences.says("the gap is the difference of both.", () -> {
            // At 90: 6 and 5; at 110: 5 and 8; the other way round then.
            BookExchange x = called(0, 100, of(110, 5, 90, 1), of(90, 5, 110, 3));
            duePrice("1 more to buy is less than 3 more to sell", x, 0, 90, 5);
            x = called(0, 100, of(110, 5, 90, 3), of(90, 5, 110, 1));
            duePrice("1 more to sell is less than 3 more to buy", x, 0, 110, 5);
        });
        Sentences.says("The price of the auction is the one with the greatest size;", () -> {
            // At 100: 12 and 5; at 110: 2 and 6.
            BookExchange x = called(0, 110, of(110, 2, 100, 10), of(100, 5, 110, 1));
            duePrice("ahead of the gap and of the mark", x, 0, 100, 5);
            // At 90: 6 and 5; at 110: 6 and 6.
            duePrice("higher by 1", called(0, 90, of(110, 6), of(90, 5, 110, 1)), 0, 110, 6);
            duePrice("for a spread", called(3, 0, of(200, 6), of(0, 5, 200, 1)), 3, 200, 6);
        });
        Sentences.says("of several the one with the least gap;", () -> {
            // At 95: 6 and 6; at 105: 6 and 7.
            duePrice("ahead of the mark", called(0, 105, of(105, 6), of(95, 6, 105, 1)), 0, 95, 6);
            // At 95: 7 and 6; at 105: 6 and 6.
            duePrice("ahead of the lowest one", called(0, 95, of(105, 6, 95, 1), of(95, 6)), 0, 105, 6);
        });
        Sentences.says("of several the one nearest to the mark of the contract,", () -> {
            duePrice("99: 9 and 11 away", called(0, 99, of(110, 5), of(90, 5)), 0, 90, 5);
            duePrice("101: 11 and 9 away", called(0, 101, of(110, 5), of(90, 5)), 0, 110, 5);
            // At 95 and 90: 6 and 5; at 110 and 100: 5 and 6: 4, 9, 11 and 1 away from 99.
            duePrice("from below and from above", called(0, 99, of(110, 5, 95, 1), of(90, 5, 100, 1)), 0, 100, 5);
            duePrice("from above and from below", called(0, 96, of(110, 5, 95, 1), of(90, 5, 100, 1)), 0, 95, 5);
            BookExchange x = called(1, 101, of(110, 5), of(90, 5));
            x.setBand(1, 1, 999);
            duePrice("the middle does not matter", x, 1, 110, 5);
        });
        Sentences.says("for a spread to 0;", () -> {
            for (int b = 3; b < 5; b++) {
                duePrice("10 and 9 away", called(b, 0, of(10, 5), of(-9, 5)), b, -9, 5);
                duePrice("10 and 11 away", called(b, 0, of(10, 5), of(-11, 5)), b, 10, 5);
                duePrice("0 itself", called(b, 0, of(1, 5), of(0, 5)), b, 0, 5);
            }
        });
        Sentences.says("of several the lowest.", () -> {
            duePrice("10 away both", called(0, 100, of(110, 5), of(90, 5)), 0, 90, 5);
            duePrice("of a spread", called(3, 0, of(10, 5), of(-10, 5)), 3, -10, 5);
            duePrice("3 away both", called(2, 200, of(203, 1), of(197, 1)), 2, 197, 1);
        });
    }

    private static void trading() {
        Sentences.says("If its size is above 0,", () -> {
            BookExchange x = called(0, 100, of(99, 5), of(100, 5));
            due("0", x.uncross(0), 0);
            due("no trade", x.trades(), 0);
            due("both rest", x.state(0) + x.state(1), 2 * BookExchange.RESTING);
            BookExchange y = called(0, 100, of(100, 1), of(100, 5));
            due("1", y.uncross(0), 1);
            due("a trade", y.trades(), 1);
        });
        Sentences.says("the best order that buys and the best one that sells trade, again and again, by the lesser one of what is left of both, at this price, until the size is traded", () -> {
            // At 99: 7 and 5; at 100 and 102: 7 and 14; at 103: 3 and 14.
            BookExchange x = called(0, 100, of(102, 4, 103, 3), of(100, 9, 99, 5));
            duePrice("7", x, 0, 100, 7);
            dueTrade(x, 0, 0, 1, 3, 100, 3);
            dueTrade(x, 1, 0, 0, 3, 100, 2);
            dueTrade(x, 2, 0, 0, 2, 100, 2);
            due("no more", x.trades(), 3);
            due("left of the last one", x.state(2) * 10 + x.left(2), 17);
            due("the others are DONE", x.state(0) + x.state(1) + x.state(3), 3 * BookExchange.DONE);
        });
        Sentences.says("(by a trade of the contract; for a spread by both trades as by its way 0);", () -> {
            BookExchange x = called(2, 100, of(101, 2), of(101, 2));
            x.uncross(2);
            due("one of the contract", x.trades() * 10 + x.mark(2), 111);
            dueTrade(x, 0, 2, 0, 2, 101, 2);
            BookExchange y = Setups.open();
            Setups.trade(y, 4, 5, 1, 70, 1);
            y.call(3);
            sells(y, 1, 3, -80, 2);
            buys(y, 0, 3, -80, 2);
            y.uncross(3);
            dueTrade(y, 1, 1, 1, 0, 70, 2);
            dueTrade(y, 2, 0, 0, 1, -10, 2);
            due("no mark by a spread", y.mark(0) * 1000 + y.mark(1), 100070);
        });
        Sentences.says("what they show does not matter there, members may trade with themselves, and bands do not matter.", () -> {
            BookExchange x = Setups.open();
            x.call(0);
            int hidden = x.order(0, 0, false, 100, 9, 1), behind = sells(x, 1, 0, 100, 9);
            x.order(2, 0, true, 100, 8, 1);
            due("all at once", x.uncross(0) * 10 + x.trades(), 81);
            due("of the first one", x.left(hidden) * 10 + x.left(behind), 19);
            BookExchange y = called(0, 100, of(100, 2), of());
            int own = sells(y, 0, 0, 100, 2);
            due("with oneself", y.uncross(0), 2);
            dueTrade(y, 0, 0, 0, 0, 100, 2);
            due("neither is CANCELLED", y.state(own), BookExchange.DONE);
            due("no position, no cash", y.position(0, 0) + y.cash(0), 0);
            BookExchange z = called(0, 100, of(100, 2), of(100, 2));
            z.setBand(0, 500, 0);
            due("far from the middle", z.uncross(0), 2);
            due("it is not HALTED", z.phase(0), BookExchange.OPEN);
        });
    }

    private static void behind() {
        Sentences.says("Behind that, also if nothing was traded, each order that rests in the book shows the lesser one of its peak and of what is left, its stamp staying, and the book is OPEN.", () -> {
            for (int side = 0; side < 2; side++) {
                boolean isBuy = side == 0;
                BookExchange x = Setups.open();
                int first = x.order(0, 0, isBuy, 100, 12, 4);
                int second = asks(isBuy, x, 1, 0, 100, 9);
                x.now(2, 0, !isBuy, 100, 3);
                due("it shows 1", x.shows(first), 1);
                x.call(0);
                due("in a CALL it does so still", x.shows(first), 1);
                due("nothing is traded", x.uncross(0), 0);
                due("it shows its peak", x.shows(first), 4);
                due("its stamp stays", x.best(0, isBuy), first);
                due("the book is OPEN", x.phase(0), BookExchange.OPEN);
                x.call(0);
                asks(!isBuy, x, 3, 0, 100, 5);
                due("5 are traded", x.uncross(0), 5);
                due("4 are left and shown", x.left(first) * 10 + x.shows(first), 44);
                due("its stamp stays so too", x.best(0, isBuy), first);
                x.call(0);
                asks(!isBuy, x, 3, 0, 100, 1);
                x.uncross(0);
                due("3 are left and shown", x.left(first) * 10 + x.shows(first), 33);
                due("the one behind it shows all its own", x.shows(second), 9);
            }
        });
        Sentences.says("If something was traded, the book trades at this price, once,", () -> {
            BookExchange x = called(0, 100, of(105, 1), of(95, 1, 102, 1));
            int at = x.stop(5, 0, true, 1, 1, 95), above = x.stop(5, 0, true, 1, 1, 96);
            int to = x.stop(5, 0, false, 999, 1, 95), below = x.stop(5, 0, false, 999, 1, 94);
            duePrice("by 105 and 95", x, 0, 95, 1);
            due("to buy, at 95 and no more", x.state(at) * 10 + x.state(above), 10);
            due("to sell, at 95 and no less", x.state(to) * 10 + x.state(below), 10);
            BookExchange y = called(0, 100, of(105, 1), of(105, 1));
            at = y.stop(5, 0, true, 1, 1, 105);
            above = y.stop(5, 0, true, 1, 1, 106);
            y.uncross(0);
            due("at 105", y.state(at) * 10 + y.state(above), 10);
            BookExchange z = called(0, 100, of(104, 1), of(105, 1));
            at = z.stop(5, 0, true, 1, 1, 1);
            z.uncross(0);
            due("nothing was traded", z.state(at), BookExchange.WAITING);
            BookExchange s = called(3, 0, of(5, 1), of(5, 1));
            at = s.stop(5, 3, true, -500, 1, 5);
            above = s.stop(5, 0, true, 1, 1, 1);
            s.uncross(3);
            due("a spread, but no book of its contracts", s.state(at) * 10 + s.state(above), 10);
        });
        Sentences.says("and, if it is that of a contract, this price is its middle.", () -> {
            BookExchange x = called(1, 100, of(777, 1), of(777, 1));
            x.uncross(1);
            due("the middle", x.middle(1), 777);
            due("not of another one", x.middle(0) + x.middle(2), 200);
            x.call(1);
            buys(x, 0, 1, 700, 1);
            sells(x, 1, 1, 701, 1);
            x.uncross(1);
            due("without a trade it stays", x.middle(1), 777);
            BookExchange y = called(4, 0, of(50, 1), of(50, 1));
            y.uncross(4);
            due("nor by a spread", y.middle(1) + y.middle(2), 200);
        });
    }

    private static void quotes() {
        Sentences.part("### Quotes");
        Sentences.says("A member has a quote in a book, or none: an order to buy, and one to sell.", () -> {
            BookExchange x = Setups.open();
            for (int b = 0; b < 5; b++) {
                int at = b < 3 ? 100 : 0;
                due("one in each book", x.quote(1, b, at - 5, at + 5, 4), 2 * b);
                due("to buy", x.best(b, true) * 1000 + x.wayPrice(b, false), 2 * b * 1000 + at - 5);
                due("to sell", x.best(b, false) * 1000 + x.wayPrice(b, true), (2 * b + 1) * 1000 + at + 5);
                due("both show their size", x.shows(2 * b) * 10 + x.shows(2 * b + 1), 44);
            }
            due("one of each member", x.quote(2, 0, 94, 106, 4), 10);
            due("that of the first one stays", x.state(0) + x.state(1), 2 * BookExchange.RESTING);
        });
        Sentences.says("A new quote takes the place of the one before, whose orders are CANCELLED first;", () -> {
            BookExchange x = Setups.open();
            int other = x.quote(1, 1, 95, 105, 4), others = x.quote(2, 0, 94, 106, 4);
            int own = buys(x, 1, 0, 80, 1);
            int before = x.quote(1, 0, 95, 105, 4);
            x.now(3, 0, true, 105, 1);
            int next = x.quote(1, 0, 96, 104, 4);
            due("both are CANCELLED", x.state(before) * 10 + x.state(before + 1), 33);
            due("with what was left", x.left(before) * 10 + x.left(before + 1), 43);
            due("not in another book", x.state(other), BookExchange.RESTING);
            due("not of another member", x.state(others), BookExchange.RESTING);
            due("not what is no quote", x.state(own), BookExchange.RESTING);
            x.now(3, 0, true, 104, 4);
            x.quote(1, 0, 97, 103, 4);
            due("what is DONE stays DONE", x.state(next) * 10 + x.state(next + 1), 32);
            BookExchange y = Setups.open();
            before = y.quote(1, 0, 95, 105, 4);
            y.cancel(before);
            y.quote(1, 0, 105, 106, 4);
            due("one of both alone", y.state(before + 1), BookExchange.CANCELLED);
        });
        Sentences.says("its orders come one behind the other, that to sell when all that follows from that to buy is done, be that CANCELLED by then or not.", () -> {
            BookExchange x = Setups.open();
            sells(x, 0, 0, 100, 1);
            int stop = x.stop(2, 0, true, 101, 3, 100);
            int quote = x.quote(1, 0, 100, 101, 2);
            due("the stop rests ahead of the order to sell", x.left(stop), 1);
            dueTrade(x, 1, 0, 2, 1, 101, 2);
            due("with which the order to sell trades", x.state(quote + 1), BookExchange.DONE);
            BookExchange y = Setups.open();
            y.protect(1, 1);
            sells(y, 0, 0, 100, 2);
            buys(y, 0, 0, 90, 9);
            quote = y.quote(1, 0, 100, 101, 3);
            due("that to buy is CANCELLED", y.state(quote) * 10 + y.left(quote), 31);
            due("that to sell comes all the same", y.orders(), quote + 2);
            y.protect(1, 0);
            buys(y, 4, 0, 105, 1);
            y.setBand(0, 104, 0);
            buys(y, 5, 0, 104, 1);
            quote = y.quote(1, 0, 97, 98, 3);
            due("that to sell halts the book, and rests", y.phase(0) * 10 + y.state(quote + 1), 31);
            due("that to buy rests by then", y.state(quote), BookExchange.RESTING);
        });
    }

    private static void protections() {
        Sentences.says("A member has a protection, 0 for none:", () -> {
            BookExchange x = Setups.open();
            int quote = x.quote(1, 0, 95, 105, 100);
            x.now(0, 0, true, 105, 99);
            due("none at first", x.state(quote), BookExchange.RESTING);
            x.protect(1, 5);
            x.protect(1, 0);
            x.now(0, 0, false, 95, 99);
            due("none by 0", x.state(quote), BookExchange.RESTING);
            x.protect(1, 1);
            x.quote(1, 0, 95, 105, 100);
            x.now(0, 0, false, 95, 2);
            due("1 is one", x.best(0, true), BookExchange.NONE);
        });
        Sentences.says("when, by one call, orders of its quotes have traded more than that, together, all orders of all its quotes are CANCELLED;", () -> {
            for (int most = 5; most < 8; most++) {
                BookExchange x = Setups.open();
                x.protect(1, most);
                int direct = x.quote(1, 0, 80, 101, 3), spread = x.quote(1, 3, 0, 7, 3), other = x.quote(1, 4, -9, 9, 3);
                int own = buys(x, 1, 2, 50, 1), others = x.quote(2, 0, 79, 120, 3);
                sells(x, 4, 1, 90, 9);
                // By the way 1 at 97 the order to sell of the spread trades 3, by the way 0 at 101 the other one 3.
                x.now(0, 0, true, 101, 6);
                due("6 together", x.left(direct + 1) + x.left(spread + 1), 0);
                int due = most < 6 ? BookExchange.CANCELLED : BookExchange.RESTING;
                due("the quotes", x.state(direct) + x.state(spread) + x.state(other) + x.state(other + 1), 4 * due);
                due("no other order", x.state(own) + x.state(others), 2 * BookExchange.RESTING);
                x.now(0, 0, false, 80, 3);
                due("by another call", x.state(other), due);
            }
            BookExchange x = Setups.open();
            x.protect(1, 2);
            int quote = x.quote(1, 0, 95, 105, 9), first = x.stop(3, 0, true, 105, 2, 105);
            x.now(0, 0, true, 105, 1);
            due("1, and 2 by the stop that followed", x.left(quote + 1), 6);
            due("are by one call", x.state(quote) + x.state(quote + 1) + x.state(first), 3 + 3 + 2);
            BookExchange y = Setups.open();
            y.protect(1, 2);
            y.quote(1, 0, 95, 105, 9);
            buys(y, 1, 1, 95, 9);
            y.now(0, 1, false, 95, 9);
            due("what is no quote does not count", y.state(0), BookExchange.RESTING);
            for (int kind = 0; kind < 4; kind++) {
                due("3 by a call, and 3 by one of another kind", tradedTwice(kind, 3), BookExchange.RESTING);
                due("3 by a call, and 4", tradedTwice(kind, 4), BookExchange.CANCELLED);
            }
        });
    }

    /** What becomes of quotes with a protection of 3 when they trade 3 by a call, and then by another one. */
    private static int tradedTwice(int kind, int second) {
        BookExchange x = Setups.open();
        x.protect(1, 3);
        if (kind == 3) {
            x.call(1);
        }
        int quote = x.quote(1, 1, 95, 105, 9), kept = x.quote(1, 2, 95, 105, 9);
        if (kind == 2) {
            sells(x, 0, 0, 95, second);
        } else if (kind == 3) {
            sells(x, 0, 1, 95, second);
        }
        x.now(0, 2, true, 105, 3);
        due("3 are not too many", x.state(quote) + x.state(kept), 2 * BookExchange.RESTING);
        if (kind == 0) {
            x.order(0, 1, false, 95, second, second);
        } else if (kind == 1) {
            x.now(0, 1, false, 95, second);
        } else if (kind == 2) {
            x.quote(1, 0, 95, 105, 9);
        } else {
            due("uncrossed", x.uncross(1), second);
        }
        return x.state(kept);
    }

    private static void lookedAt() {
        Sentences.says("this is looked at when an order has come, be it matched or not, or a book was uncrossed, ahead of triggers, by rising members.", () -> {
            BookExchange x = Setups.open();
            x.protect(1, 2);
            int quote = x.quote(1, 0, 95, 105, 9);
            x.order(0, 0, true, 105, 9, 9);
            due("not within a matching", x.left(quote + 1), 0);
            due("but when the order has come", x.state(quote), BookExchange.CANCELLED);
            sells(x, 0, 0, 100, 3);
            quote = x.quote(1, 0, 100, 101, 3);
            due("the order to sell comes without a match, after 3 by the other", x.left(quote) * 10 + x.left(quote + 1), 3);
            due("and is CANCELLED", x.state(quote + 1), BookExchange.CANCELLED);
            BookExchange y = Setups.open();
            y.protect(1, 2);
            y.call(0);
            quote = y.quote(1, 0, 95, 105, 9);
            int elsewhere = y.quote(1, 1, 95, 105, 9);
            buys(y, 0, 0, 105, 3);
            int stop = y.stop(3, 0, true, 105, 1, 105);
            due("a book is uncrossed", y.uncross(0), 3);
            due("its quotes are CANCELLED", y.state(quote) + y.state(quote + 1) + y.state(elsewhere), 9);
            due("ahead of the trigger: that finds nothing", y.state(stop) * 10 + y.left(stop), 11);
            y.protect(1, 3);
            y.call(0);
            quote = y.quote(1, 0, 95, 105, 9);
            buys(y, 0, 0, 106, 2);
            due("3, with the one that rested", y.uncross(0), 3);
            due("are not more than 3", y.state(quote), BookExchange.RESTING);
            BookExchange z = Setups.open();
            z.protect(1, 2);
            z.protect(2, 2);
            int one = z.quote(1, 0, 95, 105, 3), two = z.quote(2, 0, 95, 105, 3);
            stop = z.stop(3, 0, false, 95, 6, 105);
            z.now(0, 0, true, 105, 6);
            due("two members", z.state(one) * 10 + z.state(two), 33);
            due("both ahead of the trigger", z.left(stop), 6);
        });
    }
}
