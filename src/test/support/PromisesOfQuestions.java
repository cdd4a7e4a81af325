/** Promises 20 to 31, sentence by sentence. */
final class PromisesOfQuestions extends Shorthand {
    static final int NO_PRICE = BookExchange.NO_PRICE, NONE = BookExchange.NONE;
    private static final String NO_BOOK = "Throws `IndexOutOfBoundsException` if there is no such book";
    private static final String NO_ORDER = "Throws `IndexOutOfBoundsException` if there is no such order";
    private static final String NO_CONTRACT = "Throws `IndexOutOfBoundsException` if there is no such contract";

    private PromisesOfQuestions() {
    }

    static void all() {
        phase();
        orders();
        state();
        left();
        shows();
        best();
        bestByAll();
        way();
        wayPrice();
        auction();
        mark();
        middle();
    }

    /** A question of each number of a range, which all have answers. */
    static void answers(int least, int most, Setups.Numbered call) {
        BookExchange x = Setups.rich();
        for (int k = least; k <= most; k++) {
            int number = k;
            due(number + " throws", Checks.of(() -> call.on(x, number)) >= INDEX, false);
        }
        PromisesOfBooks.beside(INDEX, least, most, call);
    }

    static void noSuch(int least, int most, Setups.Numbered call) {
        int[] wrong = {least - 1, most + 1, Integer.MIN_VALUE, Integer.MAX_VALUE};
        for (int number : wrong) {
            refuses("" + number, INDEX, x -> call.on(x, number));
        }
    }

    private static void book(Setups.Numbered call) {
        Sentences.says("`book`: 0 to 4", () -> answers(0, 4, call));
    }

    private static void noBook(Setups.Numbered call) {
        Sentences.says(NO_BOOK, () -> noSuch(0, 4, call));
    }

    private static void phase() {
        Sentences.part("## Promise 20: phase");
        Sentences.says("Returns what a book is.", () -> {
            BookExchange x = Setups.rich();
            int[] phases = {BookExchange.OPEN, BookExchange.HALTED, BookExchange.CALL, BookExchange.OPEN, BookExchange.SHUT};
            for (int b = 0; b < 5; b++) {
                due("book " + b, x.phase(b), phases[b]);
            }
        });
        book((x, b) -> x.phase(b));
        Sentences.says("Returns SHUT, CALL, OPEN or HALTED.", () -> {
            BookExchange x = new BookExchange();
            due("SHUT", x.phase(2), 0);
            x.call(2);
            due("CALL", x.phase(2), 1);
            x.uncross(2);
            due("OPEN", x.phase(2), 2);
            x.deposit(0, 9999);
            x.deposit(1, 9999);
            x.setBand(2, 1, 0);
            Setups.trade(x, 0, 1, 2, 2, 1);
            due("HALTED", x.phase(2), 3);
        });
        noBook((x, b) -> x.phase(b));
    }

    private static void orders() {
        Sentences.part("## Promise 21: orders");
        Sentences.says("Returns how many orders there were.", () -> {
            due("none", new BookExchange().orders(), 0);
            due("19", Setups.rich().orders(), 19);
            BookExchange x = Setups.withOrders(199);
            due("199", x.orders(), 199);
            x.cancel(0);
            due("a CANCELLED one counts", x.orders(), 199);
            x.order(0, 0, true, 1, 1, 1);
            Checks.of(() -> x.order(0, 0, true, 1, 1, 1));
            due("200, and one that throws", x.orders(), 200);
            BookExchange y = Setups.open();
            y.quote(0, 0, 90, 110, 1);
            due("a quote counts as 2", y.orders(), 2);
            y.setMove(0, 0, -500);
            y.deposit(1, -1000000);
            y.order(1, 0, true, 50, 1, 1);
            due("a refused one counts not", y.orders(), 2);
        });
    }

    /** A question of the orders 0 to 18 of Setups.rich(), and of those beside them. */
    private static void order(Setups.Numbered call) {
        Sentences.says("`order`: its number", () -> {
            BookExchange x = Setups.rich();
            for (int o = 0; o < 19; o++) {
                int order = o;
                due(o + " throws", Checks.of(() -> call.on(x, order)) >= INDEX, false);
            }
            BookExchange full = Setups.withOrders(200);
            due("199 throws", Checks.of(() -> call.on(full, 199)) >= INDEX, false);
        });
    }

    private static void noOrder(Setups.Numbered call) {
        Sentences.says(NO_ORDER, () -> {
            noSuch(0, 18, call);
            throwsIt("none at all", INDEX, () -> call.on(new BookExchange(), 0));
            BookExchange full = Setups.withOrders(200);
            throwsIt("200 of 200", INDEX, () -> call.on(full, 200));
        });
    }

    private static void state() {
        Sentences.part("## Promise 22: state");
        Sentences.says("Returns what an order is.", () -> {
            BookExchange x = Setups.rich();
            int[] states = {2, 2, 2, 2, 1, 2, 2, 1, 1, 1, 1, 1, 1, 0, 1, 3, 2, 1, 1};
            for (int o = 0; o < 19; o++) {
                due("order " + o, x.state(o), states[o]);
            }
        });
        order((x, o) -> x.state(o));
        Sentences.says("Returns WAITING, RESTING, DONE or CANCELLED.", () -> {
            BookExchange x = Setups.open();
            int order = x.stop(0, 0, true, 100, 2, 120);
            due("WAITING", x.state(order), 0);
            Setups.trade(x, 1, 2, 0, 120, 1);
            due("RESTING", x.state(order), 1);
            x.now(1, 0, false, 100, 1);
            due("RESTING with 1 left", x.state(order), 1);
            x.now(1, 0, false, 100, 1);
            due("DONE", x.state(order), 2);
            due("CANCELLED", x.state(x.now(1, 0, false, 100, 1)), 3);
        });
        noOrder((x, o) -> x.state(o));
    }

    private static void left() {
        Sentences.part("## Promise 23: left");
        Sentences.says("Returns what is left of an order, be it CANCELLED or not.", () -> {
            BookExchange x = Setups.open();
            int order = x.order(0, 0, true, 100, 100, 7);
            due("all", x.left(order), 100);
            x.now(1, 0, false, 100, 99);
            due("1", x.left(order), 1);
            x.cancel(order);
            due("1, CANCELLED", x.left(order), 1);
            int waits = x.stop(0, 0, true, 100, 5, 100);
            due("of a WAITING one", x.left(waits), 5);
            x.cancel(waits);
            due("CANCELLED", x.left(waits), 5);
            due("of one for now", x.left(x.now(1, 0, false, 100, 3)), 3);
            int quote = x.quote(2, 0, 90, 110, 4);
            x.now(1, 0, true, 110, 3);
            x.quote(2, 0, 91, 109, 4);
            due("of a quote before", x.left(quote) * 10 + x.left(quote + 1), 41);
        });
        order((x, o) -> x.left(o));
        Sentences.says("Returns what is left.", () -> {
            BookExchange x = Setups.open();
            int order = sells(x, 0, 0, 100, 2);
            x.now(1, 0, true, 100, 1);
            due("1", x.left(order), 1);
            x.now(1, 0, true, 100, 1);
            due("0 of a DONE one", x.left(order), 0);
            due("0 of the other one", x.left(2), 0);
        });
        noOrder((x, o) -> x.left(o));
    }

    private static void shows() {
        Sentences.part("## Promise 24: shows");
        Sentences.says("Returns what an order shows.", () -> {
            BookExchange x = Setups.open();
            x.order(0, 0, true, 100, 9, 4);
            due("its peak", x.shows(0), 4);
            x.now(1, 0, false, 100, 3);
            due("1", x.shows(0), 1);
            x.now(1, 0, false, 100, 1);
            due("its peak anew", x.shows(0), 4);
            x.now(1, 0, false, 100, 4);
            due("what is left", x.shows(0), 1);
            x.shut(0);
            due("in a SHUT book", x.shows(0), 1);
        });
        order((x, o) -> x.shows(o));
        Sentences.says("Returns what it shows; 0 if it is not RESTING.", () -> {
            BookExchange x = Setups.open();
            x.stop(0, 0, true, 90, 9, 110);
            due("WAITING", x.shows(0), 0);
            x.order(0, 0, true, 100, 9, 4);
            x.now(1, 0, false, 100, 2);
            x.cancel(1);
            due("CANCELLED while it showed 2", x.shows(1), 0);
            due("DONE", x.shows(2), 0);
            due("for now", x.shows(x.now(1, 0, false, 100, 2)), 0);
            int quote = x.quote(2, 0, 90, 110, 4);
            due("of a quote", x.shows(quote), 4);
            x.quote(2, 0, 91, 109, 4);
            due("of the one before", x.shows(quote), 0);
        });
        noOrder((x, o) -> x.shows(o));
    }

    private static void best() {
        Sentences.part("## Promise 25: best");
        Sentences.says("Returns the best resting order of a book and side.", () -> dueBest(false));
        book((x, b) -> x.best(b, true));
        Sentences.says("`isBuy`: whether those that buy are asked", () -> {
            BookExchange x = Setups.open();
            int buy = buys(x, 0, 0, 90, 1), sell = sells(x, 0, 0, 110, 1);
            due("to buy", x.best(0, true), buy);
            due("to sell", x.best(0, false), sell);
        });
        Sentences.says("Returns its number; NONE if there is none.", () -> dueNoBest(false));
        noBook((x, b) -> x.best(b, false));
    }

    private static void bestByAll() {
        Sentences.part("## Promise 26: bestByAll");
        Sentences.says("Returns the same, found by going through all orders.", () -> {
            dueBest(true);
            BookExchange x = new BookExchange();
            for (Setups.Act act : Setups.story()) {
                act.on(x);
                for (int b = 0; b < 5; b++) {
                    due("to buy", x.bestByAll(b, true), x.best(b, true));
                    due("to sell", x.bestByAll(b, false), x.best(b, false));
                }
            }
        });
        book((x, b) -> x.bestByAll(b, true));
        Sentences.says("`isBuy`: whether those that buy are asked", () -> {
            BookExchange x = Setups.open();
            int buy = buys(x, 0, 0, 90, 1), sell = sells(x, 0, 0, 110, 1);
            due("to buy", x.bestByAll(0, true), buy);
            due("to sell", x.bestByAll(0, false), sell);
        });
        Sentences.says("Returns its number; NONE if there is none.", () -> dueNoBest(true));
        noBook((x, b) -> x.bestByAll(b, false));
    }

    private static int best(BookExchange x, boolean isByAll, int book, boolean isBuy) {
        return isByAll ? x.bestByAll(book, isBuy) : x.best(book, isBuy);
    }

    private static void dueBest(boolean isByAll) {
        for (int side = 0; side < 2; side++) {
            boolean isBuy = side == 0;
            for (int b = 0; b < 5; b++) {
                int at = b < 3 ? 100 : 0, less = isBuy ? -1 : 1;
                BookExchange x = Setups.open();
                int worse = asks(isBuy, x, 0, b, at + less, 2), first = x.order(1, b, isBuy, at, 4, 2);
                int second = asks(isBuy, x, 2, b, at, 2);
                due("the better price, the earlier stamp", best(x, isByAll, b, isBuy), first);
                x.now(3, b, !isBuy, at, 2);
                due("then with a later stamp", best(x, isByAll, b, isBuy), second);
                x.cancel(second);
                due("then alone at the price", best(x, isByAll, b, isBuy), first);
                x.shut(b);
                due("in a SHUT book too", best(x, isByAll, b, isBuy), first);
                x.cancel(first);
                due("the worse one is left", best(x, isByAll, b, isBuy), worse);
                due("no other book", best(x, isByAll, (b + 1) % 5, isBuy), NONE);
            }
        }
    }

    private static void dueNoBest(boolean isByAll) {
        for (int side = 0; side < 2; side++) {
            boolean isBuy = side == 0;
            BookExchange x = Setups.open();
            due("an empty book", best(x, isByAll, 0, isBuy), NONE);
            asks(!isBuy, x, 0, 0, 100, 1);
            due("the other side", best(x, isByAll, 0, isBuy), NONE);
            x.stop(0, 0, isBuy, 100, 1, isBuy ? 150 : 50);
            due("one that is WAITING", best(x, isByAll, 0, isBuy), NONE);
            x.now(1, 0, isBuy, 100, 1);
            due("one that is DONE", best(x, isByAll, 0, isBuy), NONE);
            x.now(1, 0, isBuy, 100, 1);
            x.cancel(asks(isBuy, x, 0, 0, 90, 1));
            due("those that are CANCELLED", best(x, isByAll, 0, isBuy), NONE);
        }
    }

    private static void way() {
        Sentences.part("## Promise 27: way");
        Sentences.says("Returns the best way for an order that comes.", () -> {
            BookExchange x = Setups.open();
            sells(x, 0, 0, 100, 1);
            sells(x, 1, 3, 5, 1);
            sells(x, 2, 1, 96, 1);
            due("100 is less than 101", x.way(0, true), 0);
            sells(x, 2, 1, 95, 1);
            due("100 twice: the first one", x.way(0, true), 0);
            sells(x, 2, 1, 94, 1);
            due("99", x.way(0, true), 1);
            due("nothing is taken", x.trades() + x.left(1), 1);
        });
        book((x, b) -> x.way(b, true));
        Sentences.says("`isBuy`: whether it buys", () -> {
            BookExchange x = Setups.open();
            sells(x, 1, 3, 5, 1);
            sells(x, 2, 1, 96, 1);
            buys(x, 3, 0, 90, 1);
            due("to buy", x.way(0, true), 1);
            due("to sell", x.way(0, false), 0);
        });
        Sentences.says("Returns 0 to 2; NONE if there is none.", () -> {
            BookExchange x = Setups.open();
            for (int b = 0; b < 5; b++) {
                due("none", x.way(b, true), NONE);
                due("none to sell", x.way(b, false), NONE);
            }
            sells(x, 1, 3, 5, 1);
            sells(x, 2, 4, 6, 1);
            sells(x, 3, 2, 80, 1);
            due("2", x.way(0, true), 2);
            due("1", x.way(1, true), 1);
            due("0", x.way(2, true), 0);
            x.shut(4);
            due("none any more", x.way(0, true), NONE);
        });
        noBook((x, b) -> x.way(b, false));
    }

    private static void wayPrice() {
        Sentences.part("## Promise 28: wayPrice");
        Sentences.says("Returns the price of the best way for an order that comes.", () -> {
            BookExchange x = Setups.open();
            sells(x, 0, 0, 100, 1);
            sells(x, 1, 3, 5, 1);
            sells(x, 2, 1, 96, 1);
            due("100 and 101", x.wayPrice(0, true), 100);
            sells(x, 2, 1, 94, 1);
            due("100 and 99", x.wayPrice(0, true), 99);
            BookExchange y = Setups.open();
            buys(y, 1, 3, -500, 1);
            buys(y, 2, 4, -500, 1);
            buys(y, 3, 2, 1, 1);
            due("far below 0", y.wayPrice(0, false), -999);
            BookExchange z = Setups.open();
            buys(z, 1, 3, -500, 1);
            buys(z, 2, 4, -500, 1);
            sells(z, 3, 0, 999, 1);
            due("far above", z.wayPrice(2, true), 1999);
        });
        book((x, b) -> x.wayPrice(b, true));
        Sentences.says("`isBuy`: whether it buys", () -> {
            BookExchange x = Setups.open();
            sells(x, 1, 0, 110, 1);
            buys(x, 2, 0, 90, 1);
            due("to buy", x.wayPrice(0, true), 110);
            due("to sell", x.wayPrice(0, false), 90);
        });
        Sentences.says("Returns the price; NO_PRICE if there is no way.", () -> {
            BookExchange x = Setups.open();
            for (int b = 0; b < 5; b++) {
                due("none", x.wayPrice(b, true), NO_PRICE);
                due("none to sell", x.wayPrice(b, false), NO_PRICE);
            }
            sells(x, 1, 3, 0, 1);
            due("a price of 0", x.wayPrice(3, true), 0);
            sells(x, 1, 3, -1, 1);
            due("of -1, which is no NONE", x.wayPrice(3, true), -1);
            x.call(3);
            due("none in a CALL", x.wayPrice(3, true), NO_PRICE);
        });
        noBook((x, b) -> x.wayPrice(b, false));
    }

    private static void auction() {
        Sentences.part("## Promise 29: auction");
        Sentences.says("Returns the price that an auction of a book would have, whatever it is in.", () -> {
            BookExchange x = Setups.open();
            x.call(0);
            x.call(1);
            buys(x, 1, 0, 101, 2);
            sells(x, 2, 0, 101, 3);
            due("in a CALL", x.auction(0), 101);
            x.shut(0);
            due("SHUT", x.auction(0), 101);
            due("of no other one", x.auction(1), NO_PRICE);
            x.call(0);
            due("it would be that", x.uncross(0), 2);
            due("it is that", x.trade(0, BookExchange.PRICE), 101);
            due("OPEN, with nothing that crosses", x.auction(0), NO_PRICE);
            BookExchange y = Setups.open();
            y.setBand(0, 500, 0);
            sells(y, 1, 0, 90, 1);
            buys(y, 2, 0, 110, 1);
            due("HALTED", y.auction(0) * 10 + y.phase(0), 903);
            BookExchange z = with1500Trades();
            sells(z, 1, 0, 90, 1);
            buys(z, 2, 0, 90, 1);
            due("OPEN, where nothing is matched any more", z.auction(0) * 10 + z.phase(0), 902);
        });
        book((x, b) -> x.auction(b));
        Sentences.says("Returns the price; NO_PRICE if its size would be 0.", () -> {
            for (int b = 0; b < 5; b++) {
                int at = b < 3 ? 100 : 0;
                BookExchange x = Setups.open();
                due("an empty book", x.auction(b), NO_PRICE);
                x.call(b);
                buys(x, 0, b, at - 1, 1);
                due("one side", x.auction(b), NO_PRICE);
                sells(x, 1, b, at, 1);
                due("1 apart", x.auction(b), NO_PRICE);
                int sell = sells(x, 1, b, at - 1, 1);
                due("a size of 1", x.auction(b), at - 1);
                x.cancel(sell);
                due("of 0 again", x.auction(b), NO_PRICE);
            }
        });
        noBook((x, b) -> x.auction(b));
    }

    private static BookExchange with1500Trades() {
        BookExchange x = Setups.open();
        for (int i = 0; i < 15; i++) {
            x.order(0, 0, false, 100, 100, 1);
            x.now(1, 0, true, 100, 100);
        }
        return x;
    }

    private static void mark() {
        Sentences.part("## Promise 30: mark");
        Sentences.says("Returns the mark of a contract.", () -> {
            BookExchange x = Setups.open();
            for (int c = 0; c < 3; c++) {
                Setups.trade(x, 0, 1, c, 200 + c, 1);
            }
            due("each its own", x.mark(0) * 1000000L + x.mark(1) * 1000 + x.mark(2), 200201202);
        });
        Sentences.says("`contract`: 0 to 2", () -> answers(0, 2, (x, c) -> x.mark(c)));
        Sentences.says("Returns the mark.", () -> {
            BookExchange x = Setups.open();
            due("at first", x.mark(1), 100);
            Setups.trade(x, 0, 1, 1, 999, 1);
            Setups.trade(x, 0, 1, 1, 1, 1);
            due("that of the last trade", x.mark(1), 1);
            x.bust(1);
            due("busted or not", x.mark(1), 1);
            x.setBand(1, 50, 50);
            due("whatever the middle", x.mark(1), 1);
        });
        Sentences.says(NO_CONTRACT, () -> noSuch(0, 2, (x, c) -> x.mark(c)));
    }

    private static void middle() {
        Sentences.part("## Promise 31: middle");
        Sentences.says("Returns the middle of a contract.", () -> {
            BookExchange x = Setups.open();
            for (int c = 0; c < 3; c++) {
                x.setBand(c, 200 + c, 5);
            }
            due("each its own", x.middle(0) * 1000000L + x.middle(1) * 1000 + x.middle(2), 200201202);
        });
        Sentences.says("`contract`: 0 to 2", () -> answers(0, 2, (x, c) -> x.middle(c)));
        Sentences.says("Returns the middle.", () -> {
            BookExchange x = Setups.open();
            due("at first", x.middle(1), 100);
            Setups.trade(x, 0, 1, 1, 150, 1);
            due("no trade moves it", x.middle(1), 100);
            x.call(1);
            x.uncross(1);
            due("nor an auction without one", x.middle(1), 100);
            x.call(1);
            buys(x, 0, 1, 120, 1);
            sells(x, 1, 1, 120, 1);
            x.uncross(1);
            due("an auction does", x.middle(1), 120);
            x.setBand(1, 999, 5);
            due("so does setBand()", x.middle(1), 999);
        });
        Sentences.says(NO_CONTRACT, () -> noSuch(0, 2, (x, c) -> x.middle(c)));
    }
}
