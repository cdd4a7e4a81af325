/** Promises 12 to 16, sentence by sentence. */
final class PromisesOfOrders extends Shorthand {
    private static final String NO_SUCH = "Throws `IndexOutOfBoundsException` if there is no such member or book";
    private static final String IS_OUT = "Throws `IllegalStateException` if the member is OUT,";
    private static final String NUMBER = "Returns its number; NONE if it is refused.";

    private PromisesOfOrders() {
    }

    static void all() {
        order();
        orderThrows();
        now();
        nowThrows();
        stop();
        stopThrows();
        quote();
        quoteThrows();
        cancel();
    }

    private interface Ordered {
        int on(BookExchange x, int member, int book, int price, int size);
    }

    private static void member(Setups.Numbered call) {
        Sentences.says("`member`: 0 to 5", () -> PromisesOfBooks.range(INDEX, 0, 5, call));
    }

    private static void book(Setups.Numbered call) {
        Sentences.says("`book`: 0 to 4", () -> PromisesOfBooks.range(INDEX, 0, 4, call));
    }

    private static void size(Setups.Numbered call) {
        Sentences.says("`size`: 1 to 100", () -> PromisesOfBooks.range(ARGUMENT, 1, 100, call));
    }

    private static void noSuch(Setups.Numbered ofMember, Setups.Numbered ofBook) {
        Sentences.says(NO_SUCH, () -> {
            PromisesOfBooks.beside(INDEX, 0, 5, ofMember);
            PromisesOfBooks.beside(INDEX, 0, 4, ofBook);
        });
    }

    /** Prices of each book at the edges of their range, and beside them. */
    private static void prices(Setups.Numbered ofContract, Setups.Numbered ofSpread) {
        int[] edges = {1, 999, -500, 500};
        for (int i = 0; i < 4; i++) {
            long answer = (i < 2 ? ofContract : ofSpread).on(Setups.open(), edges[i]);
            due("" + edges[i], answer, 0);
        }
        PromisesOfBooks.beside(ARGUMENT, 1, 999, ofContract);
        PromisesOfBooks.beside(ARGUMENT, -500, 500, ofSpread);
    }

    private static void dueNumbers(Ordered call) {
        BookExchange x = Setups.open();
        for (int number = 0; number < 4; number++) {
            due("the next one", call.on(x, 0, 0, 50, 1), number);
        }
        x.setMove(0, 0, -10);
        x.deposit(1, 99 - 1000000);
        due("a need of 100, funds of 99", call.on(x, 1, 0, 50, 10), BookExchange.NONE);
        due("it has no number", x.orders(), 4);
        due("a need of 90", call.on(x, 1, 0, 50, 9), 4);
        throwsIt("that was the last one", INDEX, () -> x.state(5));
    }

    private static void sides(String what, Ordered toBuy, Ordered toSell) {
        BookExchange x = Setups.open();
        int quote = x.quote(1, 0, 90, 110, 9);
        toBuy.on(x, 2, 0, 110, 1);
        due(what + " to buy, it takes what sells", x.left(quote) * 10 + x.left(quote + 1), 98);
        toSell.on(x, 2, 0, 90, 1);
        due(what + " to sell, what buys", x.left(quote) * 10 + x.left(quote + 1), 88);
    }

    private static void orderPlaces() {
        Sentences.says("`isBuy`: whether it buys", () -> {
            sides("order", (x, m, b, p, s) -> x.order(m, b, true, p, s, s), (x, m, b, p, s) -> x.order(m, b, false, p, s, s));
            BookExchange x = Setups.open();
            buys(x, 0, 0, 90, 1);
            sells(x, 0, 0, 110, 1);
            due("resting", x.best(0, true) * 10 + x.best(0, false), 1);
        });
        Sentences.says("`price`: of a contract 1 to 999, of a spread -500 to 500", () -> {
            for (int k = 0; k < 2; k++) {
                boolean isBuy = k == 0;
                prices((x, p) -> x.order(0, 2, isBuy, p, 1, 1), (x, p) -> x.order(0, 3, isBuy, p, 1, 1));
                prices((x, p) -> x.order(0, 0, isBuy, p, 1, 1), (x, p) -> x.order(0, 4, isBuy, p, 1, 1));
            }
        });
    }

    private static void order() {
        Sentences.part("## Promise 12: order");
        Sentences.says("Lets an order come.", () -> {
            BookExchange x = Setups.open();
            x.order(1, 0, false, 100, 2, 2);
            x.order(2, 0, true, 101, 5, 2);
            dueTrade(x, 0, 0, 2, 1, 100, 2);
            due("it has come to rest", x.state(1) * 100 + x.left(1) * 10 + x.shows(1), 132);
        });
        member((x, m) -> x.order(m, 0, true, 100, 1, 1));
        book((x, b) -> x.order(0, b, true, 100, 1, 1));
        orderPlaces();
        size((x, size) -> x.order(0, 0, true, 100, size, 1));
        Sentences.says("`peak`: 1 to size", () -> {
            int[] sizes = {1, 2, 50, 100};
            for (int size : sizes) {
                PromisesOfBooks.range(ARGUMENT, 1, size, (x, peak) -> x.order(0, 0, true, 100, size, peak));
            }
            BookExchange x = Setups.open();
            x.order(0, 0, true, 100, 100, 1);
            x.order(0, 0, true, 100, 100, 100);
            due("the least and the greatest", x.shows(0) * 1000 + x.shows(1), 1100);
        });
        Sentences.says(NUMBER, () -> dueNumbers((x, m, b, p, s) -> x.order(m, b, true, p, s, 1)));
    }

    private static void orderThrows() {
        noSuch((x, m) -> x.order(m, 0, true, 100, 1, 1), (x, b) -> x.order(0, b, true, 100, 1, 1));
        Sentences.says("Throws `IllegalArgumentException` if price, size or peak is out of range", () -> {
            PromisesOfBooks.beside(ARGUMENT, 1, 999, (x, p) -> x.order(0, 1, true, p, 9, 9));
            PromisesOfBooks.beside(ARGUMENT, -500, 500, (x, p) -> x.order(0, 4, false, p, 9, 9));
            PromisesOfBooks.beside(ARGUMENT, 1, 100, (x, size) -> x.order(0, 1, true, 100, size, 1));
            PromisesOfBooks.beside(ARGUMENT, 1, 9, (x, peak) -> x.order(0, 1, true, 100, 9, peak));
            BookExchange x = Setups.open();
            x.setMove(0, 1, -500);
            x.deposit(0, -1000000);
            throwsIt("it is no refusal", ARGUMENT, () -> x.order(0, 1, true, 100, 101, 1));
            due("that would be one", x.order(0, 1, true, 100, 100, 1), BookExchange.NONE);
        });
        Sentences.says(IS_OUT, () -> {
            for (int b = 0; b < 5; b++) {
                int book = b;
                refuses("book " + b, STATE, Setups::withOut, x -> x.order(5, book, true, 1, 1, 1));
            }
        });
        Sentences.says("the book is SHUT,", () -> dueShut((x, b) -> x.order(0, b, true, 1, 1, 1), 0));
        Sentences.says("or there are 200 orders", () -> due200((x, b) -> x.order(0, b, true, 1, 1, 1), 199, 199));
    }

    /** Throws in a book that is SHUT, but not if it is in a CALL, or HALTED. */
    private static void dueShut(Setups.Numbered call, long answer) {
        for (int b = 0; b < 5; b++) {
            int book = b;
            BookExchange x = Setups.open();
            x.shut(b);
            throwsIt("SHUT", STATE, () -> call.on(x, book));
            due("no order", x.orders(), 0);
            x.call(b);
            due("in a CALL", call.on(x, book), answer);
            x.shut(b);
            throwsIt("SHUT again", STATE, () -> call.on(x, book));
            if (b < 3) {
                BookExchange y = Setups.open();
                y.setBand(b, 500, 0);
                Setups.trade(y, 2, 3, b, 400, 1);
                due("HALTED", call.on(y, book), answer + 2);
            }
            due("it is the book that counts", call.on(Setups.open(), book), answer);
        }
    }

    /** Throws from so many orders on, and is the last one before. */
    private static void due200(Setups.Numbered call, int orders, int number) {
        BookExchange x = Setups.withOrders(orders);
        due("from " + orders, call.on(x, 0), number);
        BookExchange y = Setups.withOrders(orders + 1);
        throwsIt("from " + (orders + 1), STATE, () -> call.on(y, 0));
        y.cancel(0);
        throwsIt("though one is CANCELLED", STATE, () -> call.on(y, 0));
        BookExchange full = Setups.withOrders(200);
        throwsIt("from 200", STATE, () -> call.on(full, 1));
        due("there are 200", full.orders(), 200);
    }

    private static void now() {
        Sentences.part("## Promise 13: now");
        Sentences.says("Lets an order for now come.", () -> {
            BookExchange x = Setups.open();
            x.order(1, 0, false, 100, 2, 2);
            x.now(2, 0, true, 101, 5);
            dueTrade(x, 0, 0, 2, 1, 100, 2);
            due("what is left is CANCELLED", x.state(1) * 100 + x.left(1) * 10 + x.shows(1), 330);
            due("it does not rest", x.best(0, true), BookExchange.NONE);
            x.now(2, 0, true, 101, 5);
            due("all of it, if nothing rests", x.state(2) * 10 + x.left(2), 35);
            sells(x, 1, 0, 100, 5);
            x.now(2, 0, true, 101, 5);
            due("nothing of it, if all is traded", x.state(4) * 10 + x.left(4), 20);
        });
        member((x, m) -> x.now(m, 0, true, 100, 1));
        book((x, b) -> x.now(0, b, true, 100, 1));
        Sentences.says("`isBuy`: whether it buys", () -> sides("now", (x, m, b, p, s) -> x.now(m, b, true, p, s), (x, m, b, p, s) -> x.now(m, b, false, p, s)));
        Sentences.says("`price`: of a contract 1 to 999, of a spread -500 to 500", () -> {
            for (int k = 0; k < 2; k++) {
                boolean isBuy = k == 0;
                prices((x, p) -> x.now(0, 2, isBuy, p, 1), (x, p) -> x.now(0, 3, isBuy, p, 1));
                prices((x, p) -> x.now(0, 1, isBuy, p, 1), (x, p) -> x.now(0, 4, isBuy, p, 1));
            }
        });
        size((x, size) -> x.now(0, 0, true, 100, size));
        Sentences.says(NUMBER, () -> dueNumbersForNow());
    }

    /** As dueNumbers(), but for that orders for now leave no need behind. */
    private static void dueNumbersForNow() {
        dueNumbers((x, m, b, p, s) -> x.now(m, b, true, p, s));
    }

    private static void nowThrows() {
        noSuch((x, m) -> x.now(m, 0, true, 100, 1), (x, b) -> x.now(0, b, true, 100, 1));
        Sentences.says("Throws `IllegalArgumentException` if price or size is out of range", () -> {
            PromisesOfBooks.beside(ARGUMENT, 1, 999, (x, p) -> x.now(0, 1, true, p, 9));
            PromisesOfBooks.beside(ARGUMENT, -500, 500, (x, p) -> x.now(0, 4, false, p, 9));
            PromisesOfBooks.beside(ARGUMENT, 1, 100, (x, size) -> x.now(0, 1, true, 100, size));
        });
        Sentences.says(IS_OUT, () -> {
            for (int b = 0; b < 5; b++) {
                int book = b;
                refuses("book " + b, STATE, Setups::withOut, x -> x.now(5, book, true, 1, 1));
            }
        });
        Sentences.says("the book is not OPEN,", () -> {
            for (int b = 0; b < 5; b++) {
                int book = b;
                BookExchange x = Setups.open();
                x.shut(b);
                throwsIt("SHUT", STATE, () -> x.now(0, book, true, 1, 1));
                x.call(b);
                throwsIt("in a CALL", STATE, () -> x.now(0, book, true, 1, 1));
                x.uncross(b);
                due("OPEN", x.now(0, book, true, 1, 1), 0);
                if (b < 3) {
                    x.setBand(b, 500, 0);
                    Setups.trade(x, 2, 3, b, 400, 1);
                    throwsIt("HALTED", STATE, () -> x.now(0, book, true, 1, 1));
                }
            }
        });
        Sentences.says("or there are 200 orders", () -> due200((x, b) -> x.now(0, b, true, 1, 1), 199, 199));
    }

    private static void stop() {
        Sentences.part("## Promise 14: stop");
        Sentences.says("Makes an order that is WAITING for its trigger.", () -> {
            BookExchange x = Setups.open();
            sells(x, 1, 0, 100, 9);
            int stop = x.stop(2, 0, true, 101, 5, 99);
            due("it is WAITING, with all of it left", x.state(stop) * 10 + x.left(stop), 5);
            due("it shows nothing", x.shows(stop), 0);
            due("though it would trade", x.trades(), 0);
            due("it does not rest", x.best(0, true), BookExchange.NONE);
            x.now(3, 0, true, 100, 1);
            due("then it comes", x.state(stop) * 10 + x.left(0), 23);
        });
        member((x, m) -> x.stop(m, 0, true, 100, 1, 100));
        book((x, b) -> x.stop(0, b, true, 100, 1, 100));
        Sentences.says("`isBuy`: whether it buys", () -> {
            BookExchange x = Setups.open();
            int buys = x.stop(2, 0, true, 50, 1, 101), sells = x.stop(2, 0, false, 150, 1, 99);
            Setups.trade(x, 0, 1, 0, 101, 1);
            due("to buy at 101", x.best(0, true) * 10 + x.best(0, false), buys * 10 + BookExchange.NONE);
            Setups.trade(x, 0, 1, 0, 99, 1);
            due("to sell at 99", x.best(0, false), sells);
        });
        Sentences.says("`price`: of a contract 1 to 999, of a spread -500 to 500", () -> {
            for (int k = 0; k < 2; k++) {
                boolean isBuy = k == 0;
                prices((x, p) -> x.stop(0, 2, isBuy, p, 1, 100), (x, p) -> x.stop(0, 3, isBuy, p, 1, 100));
            }
        });
        size((x, size) -> x.stop(0, 0, true, 100, size, 100));
        Sentences.says("`trigger`: likewise a price", () -> {
            for (int k = 0; k < 2; k++) {
                boolean isBuy = k == 0;
                prices((x, p) -> x.stop(0, 2, isBuy, 100, 1, p), (x, p) -> x.stop(0, 3, isBuy, 100, 1, p));
                prices((x, p) -> x.stop(0, 0, isBuy, 100, 1, p), (x, p) -> x.stop(0, 4, isBuy, 100, 1, p));
            }
        });
        Sentences.says(NUMBER, () -> dueNumbers((x, m, b, p, s) -> x.stop(m, b, true, p, s, 60)));
    }

    private static void stopThrows() {
        noSuch((x, m) -> x.stop(m, 0, true, 100, 1, 100), (x, b) -> x.stop(0, b, true, 100, 1, 100));
        Sentences.says("Throws `IllegalArgumentException` if price, size or trigger is out of range", () -> {
            PromisesOfBooks.beside(ARGUMENT, 1, 999, (x, p) -> x.stop(0, 1, true, p, 9, 100));
            PromisesOfBooks.beside(ARGUMENT, -500, 500, (x, p) -> x.stop(0, 4, false, p, 9, 100));
            PromisesOfBooks.beside(ARGUMENT, 1, 100, (x, size) -> x.stop(0, 1, true, 100, size, 100));
            PromisesOfBooks.beside(ARGUMENT, 1, 999, (x, p) -> x.stop(0, 1, true, 100, 9, p));
            PromisesOfBooks.beside(ARGUMENT, -500, 500, (x, p) -> x.stop(0, 4, false, 100, 9, p));
        });
        Sentences.says(IS_OUT, () -> {
            for (int b = 0; b < 5; b++) {
                int book = b;
                refuses("book " + b, STATE, Setups::withOut, x -> x.stop(5, book, true, 1, 1, 1));
            }
        });
        Sentences.says("the book is SHUT,", () -> dueShut((x, b) -> x.stop(0, b, true, 1, 1, 1), 0));
        Sentences.says("or there are 200 orders", () -> due200((x, b) -> x.stop(0, b, true, 1, 1, 1), 199, 199));
    }

    private static void quote() {
        Sentences.part("## Promise 15: quote");
        Sentences.says("Quotes in a book.", () -> {
            BookExchange x = Setups.open();
            sells(x, 1, 0, 100, 2);
            buys(x, 1, 0, 90, 2);
            x.quote(2, 0, 100, 101, 5);
            dueTrade(x, 0, 0, 2, 1, 100, 2);
            due("the rest of it rests", x.state(2) * 10 + x.left(2), 13);
            due("as does the other one", x.state(3) * 10 + x.left(3), 15);
            x.quote(2, 0, 80, 90, 5);
            dueTrade(x, 1, 0, 1, 2, 90, 2);
            due("the order to sell has traded", x.left(4) * 10 + x.left(5), 53);
        });
        member((x, m) -> x.quote(m, 0, 100, 101, 1));
        book((x, b) -> x.quote(0, b, 100, 101, 1));
        Sentences.says("`bid`: the price of the order to buy, as for order()", () -> {
            int[] contract = {1, 998}, spread = {-500, 499};
            for (int k = 0; k < 2; k++) {
                BookExchange x = Setups.open();
                x.quote(0, 0, contract[k], 999, 1);
                due("of a contract", x.wayPrice(0, false), contract[k]);
                x.quote(0, 4, spread[k], 500, 1);
                due("of a spread", x.wayPrice(4, false), spread[k]);
            }
            PromisesOfBooks.beside(ARGUMENT, 1, 998, (x, bid) -> x.quote(0, 0, bid, 999, 1));
            PromisesOfBooks.beside(ARGUMENT, -500, 499, (x, bid) -> x.quote(0, 4, bid, 500, 1));
        });
        Sentences.says("`ask`: the price of the order to sell, above bid", () -> {
            int[] contract = {2, 999}, spread = {-499, 500};
            for (int k = 0; k < 2; k++) {
                BookExchange x = Setups.open();
                x.quote(0, 0, 1, contract[k], 1);
                due("of a contract", x.wayPrice(0, true), contract[k]);
                x.quote(0, 4, -500, spread[k], 1);
                due("of a spread", x.wayPrice(4, true), spread[k]);
            }
            PromisesOfBooks.beside(ARGUMENT, 101, 999, (x, ask) -> x.quote(0, 0, 100, ask, 1));
            PromisesOfBooks.beside(ARGUMENT, -6, 500, (x, ask) -> x.quote(0, 4, -7, ask, 1));
        });
        Sentences.says("`size`: 1 to 100: of each of both", () -> {
            PromisesOfBooks.range(ARGUMENT, 1, 100, (x, size) -> x.quote(0, 0, 100, 101, size));
            BookExchange x = Setups.open();
            x.quote(0, 0, 100, 101, 100);
            due("the greatest of each", x.left(0) + x.left(1), 200);
        });
        Sentences.says("Returns the number of the order to buy, that to sell having the next one; NONE if the quote is refused, and that before stays.", () -> {
            BookExchange x = Setups.open();
            due("the first", x.quote(0, 0, 90, 110, 9), 0);
            due("the second", x.quote(0, 0, 91, 109, 9), 2);
            due("to buy, and to sell", x.best(0, true) * 10 + x.best(0, false), 23);
            x.setMove(0, 0, -10);
            x.deposit(0, 99 - 1000000);
            due("a need of 100, funds of 99", x.quote(0, 0, 90, 110, 10), BookExchange.NONE);
            due("they stay", x.state(2) + x.state(3), 2 * BookExchange.RESTING);
            due("it has no numbers", x.orders(), 4);
            due("a need of 90", x.quote(0, 0, 90, 110, 9), 4);
            BookExchange y = Setups.open();
            sells(y, 1, 0, 100, 1);
            y.stop(3, 0, true, 101, 1, 100);
            due("a stop that comes between does not matter", y.quote(2, 0, 100, 101, 1), 2);
            due("to sell the next one", y.state(2) * 10 + y.state(3), 22);
        });
    }

    private static void quoteThrows() {
        noSuch((x, m) -> x.quote(m, 0, 100, 101, 1), (x, b) -> x.quote(0, b, 100, 101, 1));
        Sentences.says("Throws `IllegalArgumentException` if bid, ask or size is out of range", () -> {
            int[][] wrong = {{0, 0, 5, 1}, {0, 5, 1000, 1}, {0, 999, 1000, 1}, {3, -501, 5, 1}, {3, 5, 501, 1},
                {3, 500, 501, 1}, {0, 5, 5, 1}, {0, 5, 4, 1}, {3, 0, 0, 1}, {3, 0, -1, 1}, {0, 5, 6, 0}, {0, 5, 6, 101}};
            for (int[] one : wrong) {
                refuses(one[1] + ", " + one[2] + ", " + one[3], ARGUMENT, x -> x.quote(1, one[0], one[1], one[2], one[3]));
            }
        });
        Sentences.says(IS_OUT, () -> {
            for (int b = 0; b < 5; b++) {
                int book = b;
                refuses("book " + b, STATE, Setups::withOut, x -> x.quote(5, book, 1, 2, 1));
            }
        });
        Sentences.says("the book is SHUT,", () -> {
            dueShut((x, b) -> x.quote(0, b, 1, 2, 1), 0);
            BookExchange x = Setups.open();
            x.quote(0, 0, 90, 110, 9);
            x.shut(0);
            throwsIt("with a quote before", STATE, () -> x.quote(0, 0, 91, 109, 9));
            due("that stays", x.state(0) + x.state(1), 2 * BookExchange.RESTING);
        });
        Sentences.says("or there are more than 198 orders", () -> due200((x, b) -> x.quote(0, b, 1, 2, 1), 198, 198));
    }

    private static void cancel() {
        Sentences.part("## Promise 16: cancel");
        Sentences.says("Cancels an order.", () -> {
            BookExchange x = Setups.open();
            int first = buys(x, 0, 0, 90, 1), second = buys(x, 0, 0, 90, 2), third = buys(x, 0, 0, 90, 3);
            int waits = x.stop(1, 0, true, 90, 4, 100), quote = x.quote(2, 0, 89, 111, 5);
            x.cancel(second);
            due("between others", x.state(second), BookExchange.CANCELLED);
            due("they stay", x.state(first) + x.state(third), 2 * BookExchange.RESTING);
            x.cancel(first);
            due("the best one", x.best(0, true), third);
            x.cancel(third);
            due("the last one of a price", x.best(0, true), quote);
            x.cancel(quote);
            due("one of a quote", x.best(0, true), BookExchange.NONE);
            due("alone", x.state(quote + 1), BookExchange.RESTING);
            x.cancel(waits);
            Setups.trade(x, 3, 4, 0, 100, 1);
            due("one that is WAITING", x.state(waits), BookExchange.CANCELLED);
            int shut = buys(x, 0, 1, 90, 1);
            x.shut(1);
            x.cancel(shut);
            due("one of a SHUT book", x.state(shut), BookExchange.CANCELLED);
        });
        Sentences.says("`order`: its number", () -> {
            BookExchange x = Setups.withOrders(200);
            due("the first", x.cancel(0), 1);
            due("the last", x.cancel(199), 1);
            due("no other one", x.state(0) + x.state(1) + x.state(198) + x.state(199), 3 + 1 + 1 + 3);
        });
        Sentences.says("Returns what was left of it.", () -> {
            BookExchange x = Setups.open();
            x.order(0, 0, true, 100, 100, 4);
            x.order(0, 1, true, 100, 100, 4);
            x.stop(0, 2, true, 100, 100, 200);
            x.now(1, 1, false, 100, 99);
            due("all", x.cancel(0), 100);
            due("1", x.cancel(1), 1);
            due("of a WAITING one", x.cancel(2), 100);
            due("it is left still", x.left(0), 100);
        });
        Sentences.says("Throws `IndexOutOfBoundsException` if there is no such order", () -> {
            throwsIt("none at all", INDEX, () -> new BookExchange().cancel(0));
            int[] wrong = {-1, 19, Integer.MIN_VALUE, Integer.MAX_VALUE};
            for (int order : wrong) {
                refuses("" + order, INDEX, x -> x.cancel(order));
            }
            BookExchange full = Setups.withOrders(200);
            throwsIt("200 of 200", INDEX, () -> full.cancel(200));
        });
        Sentences.says("Throws `IllegalStateException` if it is neither WAITING nor RESTING", () -> {
            refuses("DONE", STATE, x -> x.cancel(0));
            refuses("CANCELLED", STATE, x -> x.cancel(15));
            BookExchange x = Setups.open();
            int now = x.now(0, 0, true, 100, 1), quote = x.quote(1, 0, 90, 110, 1);
            throwsIt("an order for now", STATE, () -> x.cancel(now));
            x.quote(1, 0, 91, 109, 1);
            throwsIt("that of a quote before", STATE, () -> x.cancel(quote));
            x.cancel(quote + 2);
            throwsIt("twice", STATE, () -> x.cancel(quote + 2));
            int waits = x.stop(2, 0, true, 90, 1, 109);
            x.now(3, 0, true, 109, 1);
            due("one that came to rest", x.cancel(waits), 1);
            throwsIt("twice too", STATE, () -> x.cancel(waits));
        });
    }
}
