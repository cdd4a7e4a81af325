/** The Terms from their beginning to "Ways", sentence by sentence. */
final class TermsOfBooks extends Shorthand {
    private TermsOfBooks() {
    }

    static void all() {
        whatItIs();
        books();
        contracts();
        orders();
        states();
        showing();
        better();
        coming();
    }

    private static void whatItIs() {
        Sentences.part("## What it is");
        Sentences.plain("An exchange whole,", "layers of loss.");
        Sentences.says("An object is used for at most 512 calls after it has been made; what later calls answer is free.", () -> {
            BookExchange x = new BookExchange();
            for (int call = 1; call < 512; call++) {
                due("call " + call, x.deposit(2, 3), 3 * call);
            }
            due("the last call", x.deposit(2, 3), 1536);
            for (int call = 513; call < 900; call++) {
                // Whatever it answers: what the machine throws is no answer.
                Checks.of(() -> x.order(2, 0, true, 1, 1, 1));
            }
        });
    }

    private static void books() {
        Sentences.part("## Terms");
        Sentences.says("Questions change nothing.", () -> {
            BookExchange x = new BookExchange(), y = new BookExchange();
            for (Setups.Act act : Setups.story()) {
                act.on(x);
                act.on(y);
                Setups.all(x);
            }
            due("asked after each call, and asked once, are the same", Setups.deep(x).equals(Setups.deep(y)), true);
        });
        Sentences.plain("Books, members");
        Sentences.says("There are the members 0 to 5.", () -> {
            BookExchange x = Setups.open();
            for (int m = 0; m < 6; m++) {
                due("member " + m, x.order(m, 0, true, 50, 1, 1), m);
                due("its funds", x.funds(m), 1000000);
            }
            throwsIt("member 6", INDEX, () -> x.order(6, 0, true, 50, 1, 1));
            throwsIt("member -1", INDEX, () -> x.order(-1, 0, true, 50, 1, 1));
            due("there is no seventh order", x.orders(), 6);
        });
        Sentences.says("The books 0, 1 and 2 are those of the contracts 0, 1 and 2;", () -> {
            BookExchange x = Setups.open();
            for (int c = 0; c < 3; c++) {
                Setups.trade(x, 1, 2, c, 101 + c, 1);
                dueTrade(x, c, c, 1, 2, 101 + c, 1);
            }
            throwsIt("book -1", INDEX, () -> x.phase(-1));
            throwsIt("contract 3", INDEX, () -> x.mark(3));
        });
        Sentences.says("the book 3 is that of the spread of 0 against 1, the book 4 that of 1 against 2:", () -> {
            for (int k = 0; k < 2; k++) {
                BookExchange x = Setups.open();
                sells(x, 2, 3 + k, 7, 1);
                buys(x, 1, 3 + k, 7, 1);
                due("its first contract", x.trade(1, BookExchange.CONTRACT), k);
                due("its second one", x.trade(0, BookExchange.CONTRACT), k + 1);
                due("no other one", x.trades(), 2);
                throwsIt("book 5", INDEX, () -> x.phase(5));
            }
        });
        Sentences.says("to buy a spread is to buy its first contract and to sell its second one.", () -> {
            for (int k = 0; k < 2; k++) {
                BookExchange x = Setups.open();
                sells(x, 2, 3 + k, 7, 4);
                buys(x, 1, 3 + k, 7, 4);
                due("bought the first", x.position(1, k), 4);
                due("sold the second", x.position(1, k + 1), -4);
                due("the seller sold the first", x.position(2, k), -4);
                due("and bought the second", x.position(2, k + 1), 4);
                due("the third contract", x.position(1, 2 - 2 * k), 0);
            }
        });
        Sentences.says("Prices of contracts are 1 to 999,", () -> {
            for (int b = 0; b < 3; b++) {
                prices(b, 1, 999);
            }
        });
        Sentences.says("those of spreads -500 to 500.", () -> {
            for (int b = 3; b < 5; b++) {
                prices(b, -500, 500);
            }
        });
    }

    private static void prices(int book, int least, int most) {
        BookExchange x = Setups.open();
        due("the least one", x.order(0, book, true, least, 1, 1), 0);
        due("the greatest one", x.order(0, book, false, most, 1, 1), 1);
        due("for now, the least one", x.now(1, book, true, least, 1), 2);
        due("for now, the greatest one", x.now(1, book, false, most, 1), 3);
        due("waiting, the least and the greatest one", x.stop(0, book, true, least, 1, most), 4);
        due("waiting, the greatest and the least one", x.stop(0, book, false, most, 1, least), 5);
        due("a quote of the least and the greatest one", x.quote(0, book, least, most, 1), 6);
        throwsIt("too small", ARGUMENT, () -> x.order(0, book, true, least - 1, 1, 1));
        throwsIt("too large", ARGUMENT, () -> x.order(0, book, true, most + 1, 1, 1));
        throwsIt("for now, too small", ARGUMENT, () -> x.now(0, book, true, least - 1, 1));
        throwsIt("for now, too large", ARGUMENT, () -> x.now(0, book, true, most + 1, 1));
        throwsIt("waiting, too small", ARGUMENT, () -> x.stop(0, book, true, least - 1, 1, most));
        throwsIt("waiting, too large", ARGUMENT, () -> x.stop(0, book, true, most + 1, 1, most));
        throwsIt("trigger too small", ARGUMENT, () -> x.stop(0, book, true, most, 1, least - 1));
        throwsIt("trigger too large", ARGUMENT, () -> x.stop(0, book, true, most, 1, most + 1));
        throwsIt("bid too small", ARGUMENT, () -> x.quote(0, book, least - 1, most, 1));
        throwsIt("ask too large", ARGUMENT, () -> x.quote(0, book, least, most + 1, 1));
        due("no more orders than those", x.orders(), 8);
    }

    private static void contracts() {
        Sentences.says("A book is SHUT at first, or in a CALL, OPEN, or HALTED.", () -> {
            BookExchange x = new BookExchange();
            for (int b = 0; b < 5; b++) {
                due("at first", x.phase(b), BookExchange.SHUT);
                x.call(b);
                due("in a CALL", x.phase(b), BookExchange.CALL);
                x.uncross(b);
                due("OPEN", x.phase(b), BookExchange.OPEN);
            }
            BookExchange y = Setups.open();
            for (int c = 0; c < 3; c++) {
                y.setBand(c, 100, 0);
                Setups.trade(y, 0, 1, c, 101, 1);
                due("HALTED", y.phase(c), BookExchange.HALTED);
            }
        });
        Sentences.says("It matches by time, at first, or by shares.", () -> {
            for (int b = 0; b < 5; b++) {
                BookExchange x = Setups.open();
                int price = b < 3 ? 100 : 0;
                sells(x, 1, b, price, 1);
                sells(x, 2, b, price, 8);
                sells(x, 3, b, price, 8);
                x.now(0, b, true, price, 5);
                due("by time the second one trades before the third", x.left(1) * 10 + x.left(2), 48);
                due("it was by time", x.setShares(b, true), false);
                x.now(0, b, true, price, 5);
                due("by shares both", x.left(1) * 10 + x.left(2), 7);
            }
        });
        Sentences.says("A contract has a mark, 100 at first, a middle, 100 at first, and a band, 999 at first.", () -> {
            BookExchange x = new BookExchange();
            for (int c = 0; c < 3; c++) {
                due("mark", x.mark(c), 100);
                due("middle", x.middle(c), 100);
                due("999 away from 100", soldByWays(c, 599), 1099);
                due("1000 away", soldByWays(c, 600), BookExchange.NO_PRICE);
            }
        });
    }

    /** At what price a contract trades when it is sold to another one and a spread of 500; NO_PRICE if it is HALTED. */
    private static int soldByWays(int contract, int otherPrice) {
        BookExchange x = Setups.open();
        if (contract == 2) {
            sells(x, 1, 4, -500, 1);
            buys(x, 2, 1, otherPrice, 1);
        } else {
            buys(x, 1, 3 + contract, 500, 1);
            buys(x, 2, contract + 1, otherPrice, 1);
        }
        x.now(0, contract, false, 1, 1);
        return x.trades() > 0 && x.phase(contract) == BookExchange.OPEN ? x.mark(contract) : BookExchange.NO_PRICE;
    }

    private static void orders() {
        Sentences.part("### Orders");
        Sentences.says("Orders are numbered from 0 as they come, at most 200;", () -> {
            BookExchange x = Setups.open();
            due("the first one", x.order(0, 0, true, 1, 1, 1), 0);
            due("WAITING", x.stop(0, 0, true, 1, 1, 999), 1);
            due("for now", x.now(0, 1, true, 1, 1), 2);
            due("a quote's", x.quote(0, 0, 2, 999, 1), 3);
            for (int number = 5; number < 199; number++) {
                due("the next one", x.order(0, 0, true, 1, 1, 1), number);
            }
            throwsIt("a quote that would be the 200th and the 201st", STATE, () -> x.quote(0, 0, 2, 999, 1));
            due("the 200th", x.order(0, 0, true, 1, 1, 1), 199);
            throwsIt("the 201st", STATE, () -> x.order(0, 0, true, 1, 1, 1));
            throwsIt("the 201st for now", STATE, () -> x.now(0, 0, true, 1, 1));
            throwsIt("the 201st WAITING", STATE, () -> x.stop(0, 0, true, 1, 1, 1));
            due("that is all", x.orders(), 200);
        });
        Sentences.says("one that is refused has no number.", () -> {
            BookExchange x = Setups.open();
            x.setMove(0, 0, -500);
            x.deposit(0, 500 - 1000000);
            due("refused", x.order(0, 0, true, 50, 2, 2), BookExchange.NONE);
            due("refused, WAITING", x.stop(0, 0, true, 50, 2, 60), BookExchange.NONE);
            due("refused, for now", x.now(0, 0, true, 50, 2), BookExchange.NONE);
            due("refused, a quote", x.quote(0, 0, 50, 60, 2), BookExchange.NONE);
            due("none of them counts", x.orders(), 0);
            throwsIt("there is none", INDEX, () -> x.state(0));
            due("the next one", x.order(0, 0, true, 50, 1, 1), 0);
        });
        Sentences.says("An order has a member, a book, a side, a price, a size, of which some is left, and a peak.", () -> {
            BookExchange x = Setups.open();
            x.order(3, 1, true, 95, 9, 4);
            due("book and side", x.best(1, true), 0);
            due("price", x.wayPrice(1, false), 95);
            due("size", x.left(0), 9);
            due("peak", x.shows(0), 4);
            x.now(2, 1, false, 95, 1);
            dueTrade(x, 0, 1, 3, 2, 95, 1);
        });
    }

    private static void states() {
        Sentences.says("It is WAITING for its trigger, RESTING in its book, DONE when nothing is left, or CANCELLED.", () -> {
            BookExchange x = Setups.open();
            x.stop(0, 0, true, 90, 3, 110);
            due("WAITING", x.state(0), BookExchange.WAITING);
            x.order(0, 0, false, 110, 3, 2);
            due("RESTING", x.state(1), BookExchange.RESTING);
            x.now(1, 0, true, 109, 1);
            due("still WAITING", x.state(0), BookExchange.WAITING);
            x.now(1, 0, true, 110, 2);
            due("RESTING with 1 left", x.state(1) * 10 + x.left(1), 11);
            due("its trigger was reached", x.state(0), BookExchange.RESTING);
            x.now(1, 0, true, 110, 1);
            due("DONE with nothing left", x.state(1) * 10 + x.left(1), 20);
            due("what comes is DONE too", x.state(4), BookExchange.DONE);
            x.cancel(0);
            due("CANCELLED with all left", x.state(0) * 10 + x.left(0), 33);
        });
        Sentences.says("When it comes to rest, it gets a stamp, later than all before,", () -> {
            BookExchange x = Setups.open();
            int waiting = x.stop(5, 0, true, 100, 1, 120);
            int first = buys(x, 1, 0, 100, 1);
            int second = buys(x, 2, 0, 100, 1);
            due("the earlier one", x.best(0, true), first);
            Setups.trade(x, 3, 4, 0, 120, 1);
            due("the one that waited rests", x.state(waiting), BookExchange.RESTING);
            x.cancel(first);
            due("behind both, though its number is the lowest", x.best(0, true), second);
            due("so by all", x.bestByAll(0, true), second);
            x.cancel(second);
            due("then it is the best one", x.best(0, true), waiting);
        });
    }

    private static void showing() {
        Sentences.says("and shows the lesser one of its peak and of what is left.", () -> {
            int[] traded = {0, 4, 5, 6}, shown = {4, 4, 4, 3};
            for (int k = 0; k < 4; k++) {
                BookExchange x = Setups.open();
                if (traded[k] > 0) {
                    sells(x, 1, 0, 100, traded[k]);
                }
                int order = x.order(0, 0, true, 100, 9, 4);
                due("left of 9", x.left(order), 9 - traded[k]);
                due("of a peak of 4", x.shows(order), shown[k]);
            }
        });
        Sentences.says("What it trades is taken from what is left, and from what it shows.", () -> {
            for (int side = 0; side < 2; side++) {
                BookExchange x = Setups.open();
                asks(side == 0, x, 1, 0, 100, 9);
                x.order(0, 1, side == 0, 100, 9, 4);
                x.now(2, 0, side != 0, 100, 3);
                x.now(2, 1, side != 0, 100, 3);
                due("left, and shown of all", x.left(0) * 10 + x.shows(0), 66);
                due("left, and shown of a peak", x.left(1) * 10 + x.shows(1), 61);
            }
        });
        Sentences.says("When it shows nothing, but something is left, it shows the lesser one of both anew,", () -> {
            BookExchange x = Setups.open();
            x.order(0, 0, false, 100, 9, 4);
            x.now(1, 0, true, 100, 3);
            due("1 shown is something", x.shows(0), 1);
            x.now(1, 0, true, 100, 1);
            due("nothing shown, 5 left: the peak", x.left(0) * 10 + x.shows(0), 54);
            x.now(1, 0, true, 100, 4);
            due("nothing shown, 1 left: what is left", x.left(0) * 10 + x.shows(0), 11);
            x.now(1, 0, true, 100, 1);
            due("nothing shown, nothing left", x.left(0) * 10 + x.shows(0), 0);
            due("is DONE", x.state(0), BookExchange.DONE);
            due("and rests no more", x.best(0, false), BookExchange.NONE);
        });
        Sentences.says("and gets a new stamp, later than all before.", () -> {
            BookExchange x = Setups.open();
            int a = x.order(0, 0, false, 100, 6, 2);
            int b = sells(x, 1, 0, 100, 2);
            x.now(2, 0, true, 100, 1);
            due("while it shows 1, it keeps its stamp", x.best(0, false), a);
            int c = sells(x, 3, 0, 100, 2);
            x.now(2, 0, true, 100, 1);
            due("then it is behind one", x.best(0, false), b);
            x.cancel(b);
            due("and behind the other", x.best(0, false), c);
            due("so by all", x.bestByAll(0, false), c);
            int d = sells(x, 3, 0, 100, 2);
            x.cancel(c);
            due("but ahead of what comes later", x.best(0, false), a);
            x.cancel(a);
            due("which is there", x.best(0, false), d);
        });
    }

    private static void better() {
        Sentences.says("Of the resting orders of a book and side one is better than another one if its price is (greater to buy, less to sell),", () -> {
            BookExchange x = Setups.open();
            for (int b = 0; b < 5; b++) {
                int at = b < 3 ? 100 : 0;
                buys(x, 0, b, at - 9, 1);
                int buy = buys(x, 0, b, at - 8, 1);
                buys(x, 0, b, at - 10, 1);
                sells(x, 0, b, at + 9, 1);
                int sell = sells(x, 0, b, at + 8, 1);
                sells(x, 0, b, at + 10, 1);
                due("the greatest to buy", x.best(b, true), buy);
                due("the least to sell", x.best(b, false), sell);
                due("the greatest to buy by all", x.bestByAll(b, true), buy);
                due("the least to sell by all", x.bestByAll(b, false), sell);
            }
        });
        Sentences.says("or is the same, and its stamp is earlier.", () -> {
            for (int side = 0; side < 2; side++) {
                BookExchange x = Setups.open();
                boolean isBuy = side == 0;
                int early = x.order(0, 2, isBuy, 100, 4, 2);
                int late = asks(isBuy, x, 1, 2, 100, 2);
                due("the earlier one", x.best(2, isBuy) * 10 + x.bestByAll(2, isBuy), early * 11);
                x.now(2, 2, !isBuy, 100, 2);
                due("not the one with the lower number", x.best(2, isBuy) * 10 + x.bestByAll(2, isBuy), late * 11);
                x.now(2, 2, !isBuy, 100, 1);
                due("it trades first", x.left(late), 1);
            }
        });
    }

    private static void coming() {
        Sentences.says("An order that comes into a book that is OPEN is matched first,", () -> {
            BookExchange x = Setups.open();
            sells(x, 1, 0, 100, 2);
            buys(x, 2, 0, 100, 2);
            due("it trades", x.trades(), 1);
            due("and is DONE", x.state(1), BookExchange.DONE);
            due("and never rests", x.best(0, true), BookExchange.NONE);
        });
        Sentences.says("and what is left rests, or is CANCELLED, if it is for now (also if it was HALTED meanwhile).", () -> {
            BookExchange x = Setups.open();
            sells(x, 1, 0, 100, 2);
            buys(x, 2, 0, 100, 3);
            due("1 is left and rests", x.state(1) * 10 + x.left(1), 11);
            sells(x, 1, 1, 100, 2);
            x.now(2, 1, true, 100, 3);
            due("for now: 1 is left and CANCELLED", x.state(3) * 10 + x.left(3), 31);
            due("it does not rest", x.best(1, true), BookExchange.NONE);
            x.setBand(2, 100, 0);
            sells(x, 1, 2, 101, 2);
            x.now(2, 2, true, 101, 2);
            due("the book is HALTED", x.phase(2), BookExchange.HALTED);
            due("for now: all is left and CANCELLED", x.state(5) * 10 + x.left(5), 32);
            due("nor does it rest", x.best(2, true), BookExchange.NONE);
            x.setBand(0, 99, 0);
            sells(x, 1, 0, 101, 2);
            due("what rests is worse", x.state(1), BookExchange.RESTING);
            buys(x, 3, 0, 101, 2);
            due("that book is HALTED", x.phase(0), BookExchange.HALTED);
            due("no order for now: it rests", x.state(7) * 10 + x.left(7), 12);
        });
        Sentences.says("In a CALL, or a HALTED book, it rests.", () -> {
            BookExchange x = Setups.open();
            x.setBand(0, 100, 0);
            Setups.trade(x, 1, 2, 0, 101, 1);
            x.call(1);
            sells(x, 2, 1, 101, 1);
            for (int b = 0; b < 2; b++) {
                x.setBand(b, 101, 999);
                int crossing = buys(x, 3, b, 105, 1);
                due("an order that crosses rests", x.state(crossing), BookExchange.RESTING);
                due("one's own order stays", x.state(sells(x, 3, b, 105, 1)) + x.state(crossing), 2);
                int quote = x.quote(4, b, 103, 104, 1);
                due("a quote rests", x.state(quote) + x.state(quote + 1), 2 * BookExchange.RESTING);
            }
            due("nothing is traded", x.trades(), 0);
            due("the books are what they were", x.phase(0) * 10 + x.phase(1), 31);
        });
    }
}
