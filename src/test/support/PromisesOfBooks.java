/** Promises 1 to 11, sentence by sentence. */
final class PromisesOfBooks extends Shorthand {
    private static final String NO_BOOK = "Throws `IndexOutOfBoundsException` if there is no such book";
    private static final String NO_MEMBER = "Throws `IndexOutOfBoundsException` if there is no such member";

    private PromisesOfBooks() {
    }

    static void all() {
        aNewObject();
        call();
        shut();
        uncross();
        setShares();
        setBand();
        deposit();
        depositStates();
        setShare();
        setCapital();
        protect();
        setMove();
    }

    /** A call on each number of a range, and on those beside it, which throw. */
    static void range(long thrown, int least, int most, Setups.Numbered call) {
        for (int k = least; k <= most; k++) {
            int number = k;
            BookExchange x = Setups.open();
            due(number + " throws", Checks.of(() -> call.on(x, number)) >= INDEX, false);
        }
        beside(thrown, least, most, call);
    }

    /** What lies beside a range throws, and changes nothing. */
    static void beside(long thrown, int least, int most, Setups.Numbered call) {
        int[] wrong = {least - 1, most + 1, Integer.MIN_VALUE, Integer.MAX_VALUE};
        for (int number : wrong) {
            refuses("" + number, thrown, Setups::open, x -> call.on(x, number));
        }
    }

    private static void aNewObject() {
        Sentences.part("## Promise 1: A new object");
        Sentences.says("Makes an exchange with books that are SHUT, and members who have nothing.", () -> {
            BookExchange x = new BookExchange();
            for (int b = 0; b < 5; b++) {
                due("a book is SHUT", x.phase(b), BookExchange.SHUT);
                due("nothing rests", x.best(b, true) + x.best(b, false), 2 * BookExchange.NONE);
            }
            for (int m = 0; m < 6; m++) {
                due("funds, cash, share", Math.abs(x.funds(m)) + Math.abs(x.cash(m)) + x.share(m), 0);
                due("margin, need", x.margin(m) + x.need(m), 0);
                due("collateral", x.deposit(m, 0), 0);
                due("protection", x.protect(m, 0), 0);
                due("OUT", x.isOut(m), false);
                for (int c = 0; c < 3; c++) {
                    due("positions", Math.abs(x.position(m, c)) + Math.abs(x.positionByTrades(m, c)), 0);
                }
            }
            due("orders, trades, capital, uncovered", x.orders() + x.trades() + x.capital() + x.uncovered(), 0);
            due("no bids", x.bid(0, 0), 1);
            BookExchange used = Setups.rich();
            due("another object is another one", used.orders() > 0 && new BookExchange().orders() == 0, true);
            due("as is the first one", x.orders(), 0);
        });
    }

    private static void call() {
        Sentences.part("## Promise 2: call");
        Sentences.says("Puts a book into a CALL.", () -> {
            BookExchange x = new BookExchange();
            for (int b = 0; b < 5; b++) {
                x.call(b);
                for (int k = 0; k < 5; k++) {
                    due("each by itself", x.phase(k), k <= b ? BookExchange.CALL : BookExchange.SHUT);
                }
            }
            BookExchange y = Setups.open();
            y.order(0, 0, true, 100, 9, 4);
            y.now(1, 0, false, 100, 3);
            y.call(0);
            due("its orders stay as they are", y.state(0) * 100 + y.left(0) * 10 + y.shows(0), 161);
        });
        Sentences.says("`book`: 0 to 4", () -> range(INDEX, 0, 4, (x, b) -> x.call(b)));
        Sentences.says("Returns what it was.", () -> {
            BookExchange x = new BookExchange();
            due("SHUT", x.call(0), BookExchange.SHUT);
            x.uncross(0);
            due("OPEN", x.call(0), BookExchange.OPEN);
            x.uncross(0);
            x.deposit(0, 1000);
            x.deposit(1, 1000);
            x.setBand(0, 1, 0);
            Setups.trade(x, 0, 1, 0, 2, 1);
            due("HALTED", x.call(0), BookExchange.HALTED);
        });
        Sentences.says(NO_BOOK, () -> beside(INDEX, 0, 4, (x, b) -> x.call(b)));
        Sentences.says("Throws `IllegalStateException` if it is in a CALL", () -> {
            for (int k = 0; k < 5; k++) {
                int b = k;
                BookExchange x = new BookExchange();
                x.call(b);
                throwsIt("twice", STATE, () -> x.call(b));
                due("it is so still", x.phase(b), BookExchange.CALL);
            }
        });
    }

    private static void shut() {
        Sentences.part("## Promise 3: shut");
        Sentences.says("Shuts a book; its orders stay.", () -> {
            BookExchange x = Setups.open();
            int rests = x.order(0, 0, true, 100, 9, 4), sells = sells(x, 1, 0, 110, 3), waits = x.stop(2, 0, true, 90, 5, 120);
            x.now(1, 0, false, 100, 3);
            x.shut(0);
            due("SHUT", x.phase(0), BookExchange.SHUT);
            due("no other one", x.phase(1), BookExchange.OPEN);
            due("what rests stays", x.state(rests) * 100 + x.left(rests) * 10 + x.shows(rests), 161);
            due("on both sides", x.best(0, true) * 10 + x.best(0, false), rests * 10 + sells);
            due("what waits too", x.state(waits), BookExchange.WAITING);
            due("they need as before", x.cancel(rests), 6);
            x.call(0);
            x.uncross(0);
            x.now(3, 0, true, 110, 1);
            due("and trade when it is OPEN again", x.left(sells), 2);
        });
        Sentences.says("`book`: 0 to 4", () -> range(INDEX, 0, 4, (x, b) -> x.shut(b)));
        Sentences.says("Returns what it was.", () -> {
            BookExchange x = Setups.open();
            due("OPEN", x.shut(0), BookExchange.OPEN);
            x.call(0);
            due("in a CALL", x.shut(0), BookExchange.CALL);
            x.setBand(1, 1, 0);
            Setups.trade(x, 0, 1, 1, 2, 1);
            due("HALTED", x.shut(1), BookExchange.HALTED);
        });
        Sentences.says(NO_BOOK, () -> beside(INDEX, 0, 4, (x, b) -> x.shut(b)));
        Sentences.says("Throws `IllegalStateException` if it is SHUT", () -> {
            for (int k = 0; k < 5; k++) {
                int b = k;
                throwsIt("at first", STATE, () -> new BookExchange().shut(b));
                BookExchange x = Setups.open();
                x.shut(b);
                throwsIt("twice", STATE, () -> x.shut(b));
            }
        });
    }

    private static void uncross() {
        Sentences.part("## Promise 4: uncross");
        Sentences.says("Uncrosses a book.", () -> {
            BookExchange x = Setups.open();
            x.call(0);
            x.call(1);
            for (int b = 0; b < 2; b++) {
                buys(x, 0, b, 100, 2);
                sells(x, 1, b, 100, 2);
            }
            x.uncross(0);
            due("it trades", x.left(0) + x.left(1), 0);
            due("and is OPEN", x.phase(0), BookExchange.OPEN);
            due("another one does not", x.left(2) + x.left(3), 4);
            due("and is not", x.phase(1), BookExchange.CALL);
        });
        Sentences.says("`book`: 0 to 4", () -> {
            range(INDEX, 0, 4, (x, b) -> {
                if (b >= 0 && b < 5) {
                    x.call(b);
                }
                return x.uncross(b);
            });
        });
        Sentences.says("Returns the size that is traded.", () -> {
            for (int b = 0; b < 5; b++) {
                BookExchange x = Setups.open();
                x.call(b);
                due("an empty book", x.uncross(b), 0);
                x.call(b);
                buys(x, 0, b, 100, 100);
                buys(x, 1, b, 100, 100);
                due("one side", x.uncross(b), 0);
                x.call(b);
                sells(x, 2, b, 100, 100);
                sells(x, 3, b, 100, 37);
                due("137", x.uncross(b), 137);
                x.call(b);
                sells(x, 3, b, 101, 5);
                due("none at 101", x.uncross(b), 0);
            }
        });
        Sentences.says(NO_BOOK, () -> beside(INDEX, 0, 4, (x, b) -> x.uncross(b)));
        Sentences.says("Throws `IllegalStateException` if it is neither in a CALL nor HALTED", () -> {
            for (int k = 0; k < 5; k++) {
                int b = k;
                throwsIt("SHUT", STATE, () -> new BookExchange().uncross(b));
                BookExchange x = Setups.open();
                throwsIt("OPEN", STATE, () -> x.uncross(b));
                x.call(b);
                due("in a CALL", x.uncross(b), 0);
                throwsIt("OPEN again", STATE, () -> x.uncross(b));
                if (b < 3) {
                    x.setBand(b, 1, 0);
                    Setups.trade(x, 0, 1, b, 2, 1);
                    due("HALTED", x.phase(b), BookExchange.HALTED);
                    due("it uncrosses", x.uncross(b), 0);
                }
            }
        });
    }

    private static void setShares() {
        Sentences.part("## Promise 5: setShares");
        Sentences.says("Lets a book match by shares, or by time.", () -> {
            BookExchange x = Setups.open();
            x.setShares(1, true);
            for (int b = 0; b < 2; b++) {
                sells(x, 1, b, 100, 1);
                sells(x, 2, b, 100, 8);
                sells(x, 3, b, 100, 8);
                x.now(0, b, true, 100, 5);
            }
            due("the book 0 by time", x.left(1) * 10 + x.left(2), 48);
            due("the book 1 by shares", x.left(5) * 10 + x.left(6), 66);
            x.setShares(1, false);
            x.now(0, 1, true, 100, 2);
            due("by time again", x.left(5) * 10 + x.left(6), 46);
            x.shut(4);
            due("of a SHUT one too", x.setShares(4, true), false);
        });
        Sentences.says("`book`: 0 to 4", () -> range(INDEX, 0, 4, (x, b) -> x.setShares(b, true) ? 1 : 0));
        Sentences.says("`isShares`: whether by shares", () -> {
            BookExchange x = new BookExchange();
            x.setShares(2, true);
            due("by shares", x.setShares(2, false), true);
            due("by time", x.setShares(2, false), false);
        });
        Sentences.says("Returns whether it did by shares.", () -> {
            BookExchange x = new BookExchange();
            for (int b = 0; b < 5; b++) {
                due("at first", x.setShares(b, true), false);
                due("then", x.setShares(b, true), true);
                due("still", x.setShares(b, false), true);
                due("no more", x.setShares(b, false), false);
            }
        });
        Sentences.says(NO_BOOK, () -> beside(INDEX, 0, 4, (x, b) -> x.setShares(b, true) ? 1 : 0));
    }

    private static void setBand() {
        Sentences.part("## Promise 6: setBand");
        Sentences.says("Sets the middle and the band of a contract.", () -> {
            for (int c = 0; c < 3; c++) {
                BookExchange x = Setups.open();
                x.setBand(c, 200, 10);
                due("the middle", x.middle(c), 200);
                due("no other one", x.middle((c + 1) % 3) + x.middle((c + 2) % 3), 200);
                due("nor the mark", x.mark(c), 100);
                Setups.trade(x, 0, 1, c, 210, 1);
                Setups.trade(x, 0, 1, c, 190, 1);
                due("its edges", x.trades(), 2);
                Setups.trade(x, 0, 1, c, 211, 1);
                due("beyond them", x.trades() * 10 + x.phase(c), 23);
                Setups.trade(x, 0, 1, (c + 1) % 3, 500, 1);
                due("no other one's band", x.trades(), 3);
            }
        });
        Sentences.says("`contract`: 0 to 2", () -> range(INDEX, 0, 2, (x, c) -> Setups.band(x, c, 100, 10)));
        Sentences.says("`middle`: 1 to 999", () -> {
            range(ARGUMENT, 1, 999, (x, middle) -> Setups.band(x, 0, middle, 10));
            BookExchange x = new BookExchange();
            x.setBand(0, 1, 10);
            due("the least", x.middle(0), 1);
            x.setBand(0, 999, 10);
            due("the greatest", x.middle(0), 999);
        });
        Sentences.says("`band`: 0 to 999", () -> {
            range(ARGUMENT, 0, 999, (x, band) -> Setups.band(x, 0, 100, band));
            BookExchange x = Setups.open();
            x.setBand(0, 1, 998);
            sells(x, 1, 0, 999, 3);
            x.setBand(0, 1, 999);
            x.now(0, 0, true, 999, 1);
            due("998 of 999", x.trades(), 1);
            x.setBand(0, 999, 0);
            x.now(0, 0, true, 999, 1);
            due("0 of 0", x.trades(), 2);
            x.setBand(0, 998, 0);
            x.now(0, 0, true, 999, 1);
            due("1 of 0", x.trades(), 2);
        });
        Sentences.says("Throws `IndexOutOfBoundsException` if there is no such contract", () -> beside(INDEX, 0, 2, (x, c) -> Setups.band(x, c, 100, 10)));
        Sentences.says("Throws `IllegalArgumentException` if middle or band is out of range", () -> {
            beside(ARGUMENT, 1, 999, (x, middle) -> Setups.band(x, 1, middle, 5));
            beside(ARGUMENT, 0, 999, (x, band) -> Setups.band(x, 1, 200, band));
            BookExchange x = Setups.open();
            throwsIt("band", ARGUMENT, () -> Setups.band(x, 1, 200, 1000));
            throwsIt("middle", ARGUMENT, () -> Setups.band(x, 1, 1000, 0));
            due("the middle is not set", x.middle(1), 100);
            Setups.trade(x, 0, 1, 1, 999, 1);
            due("nor the band", x.trades(), 1);
        });
    }

    private static void deposit() {
        Sentences.part("## Promise 7: deposit");
        Sentences.says("Adds to the collateral of a member, or takes from it.", () -> {
            BookExchange x = new BookExchange();
            x.deposit(3, 500);
            due("added", x.funds(3), 500);
            x.deposit(3, -200);
            due("taken", x.funds(3), 300);
            x.deposit(3, 0);
            due("0 is neither", x.funds(3), 300);
            due("of no other one", x.funds(2) + x.funds(4), 0);
            due("cash is another thing", x.cash(3), 0);
        });
        Sentences.says("`member`: 0 to 5", () -> range(INDEX, 0, 5, (x, m) -> x.deposit(m, 1)));
        Sentences.says("`amount`: -1000000 to 1000000", () -> {
            beside(ARGUMENT, -1000000, 1000000, (x, amount) -> x.deposit(0, amount));
            BookExchange x = new BookExchange();
            due("the greatest", x.deposit(0, 1000000), 1000000);
            due("the least", x.deposit(0, -1000000), 0);
        });
        Sentences.says("Returns the collateral then.", () -> {
            BookExchange x = Setups.open();
            Setups.trade(x, 0, 1, 0, 100, 10);
            Setups.trade(x, 2, 3, 0, 90, 1);
            due("of one who has lost", x.deposit(0, 5), 1000005);
            due("of one who has gained", x.deposit(1, -5), 999995);
            due("of nothing", x.deposit(0, 0), 1000005);
        });
        Sentences.says(NO_MEMBER, () -> beside(INDEX, 0, 5, (x, m) -> x.deposit(m, 1)));
        Sentences.says("Throws `IllegalArgumentException` if amount is out of range", () -> beside(ARGUMENT, -1000000, 1000000, (x, amount) -> x.deposit(5, amount)));
    }

    private static void depositStates() {
        Sentences.says("Throws `IllegalStateException` if the member is OUT,", () -> {
            int[] amounts = {1, 0, -1, 1000000};
            for (int amount : amounts) {
                refuses("" + amount, STATE, Setups::withOut, x -> x.deposit(5, amount));
            }
        });
        Sentences.says("the collateral would be below 0", () -> {
            BookExchange x = new BookExchange();
            throwsIt("-1 of nothing", STATE, () -> x.deposit(0, -1));
            x.deposit(0, 7);
            throwsIt("-8 of 7", STATE, () -> x.deposit(0, -8));
            due("-7 of 7", x.deposit(0, -7), 0);
            BookExchange y = Setups.open();
            Setups.trade(y, 0, 1, 0, 100, 10);
            Setups.trade(y, 2, 3, 0, 110, 1);
            due("one who has gained 100", y.funds(0), 1000100);
            due("has but its collateral", y.deposit(0, -1000000), 0);
            throwsIt("to take", STATE, () -> y.deposit(0, -1));
        });
        Sentences.says("or above 100000000,", () -> {
            BookExchange x = new BookExchange();
            for (int i = 1; i < 100; i++) {
                x.deposit(4, 1000000);
            }
            due("99999999", x.deposit(4, 999999), 99999999);
            throwsIt("100000001", STATE, () -> x.deposit(4, 2));
            throwsIt("far above", STATE, () -> x.deposit(4, 1000000));
            due("100000000", x.deposit(4, 1), 100000000);
            throwsIt("1 more", STATE, () -> x.deposit(4, 1));
            due("it is so still", x.deposit(4, 0), 100000000);
            due("1 less", x.deposit(4, -1), 99999999);
        });
        Sentences.says("or amount is below 0, and the need of the member would be above its funds then", () -> {
            BookExchange x = Setups.open();
            x.setMove(3, 0, -10);
            buys(x, 0, 0, 90, 5);
            throwsIt("a need of 50, funds of 49", STATE, () -> x.deposit(0, 49 - 1000000));
            due("funds of 50", x.deposit(0, 50 - 1000000), 50);
            throwsIt("funds of 49", STATE, () -> x.deposit(0, -1));
            x.setMove(3, 0, -11);
            throwsIt("a need of 55", STATE, () -> x.deposit(0, -1));
            due("0 is not below 0", x.deposit(0, 0), 50);
            due("nor is 1", x.deposit(0, 1), 51);
            BookExchange y = Setups.open();
            Setups.trade(y, 0, 1, 0, 100, 10);
            Setups.trade(y, 2, 3, 0, 90, 1);
            throwsIt("a loss of 100: funds of -1", STATE, () -> y.deposit(0, 99 - 1000000));
            due("funds of 0", y.deposit(0, 100 - 1000000), 100);
        });
    }

    private static void setShare() {
        Sentences.part("## Promise 8: setShare");
        Sentences.says("Sets the share of a member in the fund.", () -> {
            BookExchange x = new BookExchange();
            x.setShare(2, 70);
            due("set", x.share(2), 70);
            x.setShare(2, 60);
            due("not added", x.share(2), 60);
            due("of no other one", x.share(1) + x.share(3), 0);
            due("no part of its funds", x.funds(2), 0);
        });
        Sentences.says("`member`: 0 to 5", () -> range(INDEX, 0, 5, (x, m) -> x.setShare(m, 1)));
        Sentences.says("`share`: 0 to 1000000", () -> {
            beside(ARGUMENT, 0, 1000000, (x, share) -> x.setShare(0, share));
            BookExchange x = new BookExchange();
            x.setShare(0, 1000000);
            due("the greatest", x.share(0), 1000000);
            x.setShare(0, 0);
            due("the least", x.share(0), 0);
        });
        Sentences.says("Returns the share before.", () -> {
            BookExchange x = new BookExchange();
            due("none", x.setShare(5, 3), 0);
            due("3", x.setShare(5, 3), 3);
            due("3 again", x.setShare(5, 0), 3);
            due("none again", x.setShare(5, 9), 0);
        });
        Sentences.says(NO_MEMBER, () -> beside(INDEX, 0, 5, (x, m) -> x.setShare(m, 1)));
        Sentences.says("Throws `IllegalArgumentException` if share is out of range", () -> beside(ARGUMENT, 0, 1000000, (x, share) -> x.setShare(5, share)));
        Sentences.says("Throws `IllegalStateException` if the member is OUT", () -> {
            refuses("1", STATE, Setups::withOut, x -> x.setShare(5, 1));
            refuses("0", STATE, Setups::withOut, x -> x.setShare(5, 0));
        });
    }

    private static void setCapital() {
        Sentences.part("## Promise 9: setCapital");
        Sentences.says("Sets the capital of the house.", () -> {
            BookExchange x = new BookExchange();
            x.setCapital(70);
            due("set", x.capital(), 70);
            x.setCapital(60);
            due("not added", x.capital(), 60);
        });
        Sentences.says("`capital`: 0 to 1000000", () -> {
            beside(ARGUMENT, 0, 1000000, (x, capital) -> x.setCapital(capital));
            BookExchange x = new BookExchange();
            x.setCapital(1000000);
            due("the greatest", x.capital(), 1000000);
            x.setCapital(0);
            due("the least", x.capital(), 0);
        });
        Sentences.says("Returns the capital before.", () -> {
            BookExchange x = new BookExchange();
            due("none", x.setCapital(1000000), 0);
            due("that", x.setCapital(5), 1000000);
            due("then", x.setCapital(0), 5);
        });
        Sentences.says("Throws `IllegalArgumentException` if capital is out of range", () -> {
            BookExchange x = new BookExchange();
            x.setCapital(8);
            throwsIt("-1", ARGUMENT, () -> x.setCapital(-1));
            throwsIt("1000001", ARGUMENT, () -> x.setCapital(1000001));
            due("it stays", x.capital(), 8);
        });
    }

    private static void protect() {
        Sentences.part("## Promise 10: protect");
        Sentences.says("Sets the protection of a member.", () -> {
            BookExchange x = Setups.open();
            x.protect(1, 3);
            x.protect(1, 2);
            int quote = x.quote(1, 0, 95, 105, 9), other = x.quote(2, 0, 94, 106, 9);
            x.now(0, 0, true, 105, 2);
            due("2", x.state(quote), BookExchange.RESTING);
            x.now(0, 0, true, 105, 3);
            due("3", x.state(quote), BookExchange.CANCELLED);
            x.now(0, 0, true, 106, 3);
            due("of no other one", x.state(other), BookExchange.RESTING);
            BookExchange y = Setups.withOut();
            due("of one who is OUT too", y.protect(5, 7) * 10 + y.protect(5, 0), 7);
        });
        Sentences.says("`member`: 0 to 5", () -> range(INDEX, 0, 5, (x, m) -> x.protect(m, 1)));
        Sentences.says("`most`: 0 to 1000", () -> {
            range(ARGUMENT, 0, 1000, (x, most) -> x.protect(0, most));
            BookExchange x = new BookExchange();
            x.protect(0, 1000);
            due("the greatest", x.protect(0, 1), 1000);
        });
        Sentences.says("Returns the protection before.", () -> {
            BookExchange x = new BookExchange();
            due("none", x.protect(4, 9), 0);
            due("9", x.protect(4, 0), 9);
            due("none again", x.protect(4, 1), 0);
            due("of another one", x.protect(3, 1), 0);
        });
        Sentences.says(NO_MEMBER, () -> beside(INDEX, 0, 5, (x, m) -> x.protect(m, 1)));
        Sentences.says("Throws `IllegalArgumentException` if most is out of range", () -> beside(ARGUMENT, 0, 1000, (x, most) -> x.protect(5, most)));
    }

    private static void setMove() {
        Sentences.part("## Promise 11: setMove");
        Sentences.says("Sets a move of a scenario.", () -> {
            for (int s = 0; s < 6; s++) {
                for (int c = 0; c < 3; c++) {
                    BookExchange x = Setups.open();
                    Setups.trade(x, 0, 1, c, 100, 2);
                    x.setMove(s, c, -9);
                    due("-9 for 2", x.margin(0), 18);
                    x.setMove(s, c, -8);
                    due("-8 for 2, in its place", x.margin(0), 16);
                    x.setMove(s, (c + 1) % 3, -500);
                    x.setMove(s, (c + 2) % 3, -500);
                    due("of this contract", x.margin(0), 16);
                }
            }
        });
        Sentences.says("`scenario`: 0 to 5", () -> range(INDEX, 0, 5, (x, s) -> x.setMove(s, 0, 1)));
        Sentences.says("`contract`: 0 to 2", () -> range(INDEX, 0, 2, (x, c) -> x.setMove(0, c, 1)));
        Sentences.says("`move`: -500 to 500", () -> {
            range(ARGUMENT, -500, 500, (x, move) -> x.setMove(0, 0, move));
            BookExchange x = Setups.open();
            Setups.trade(x, 0, 1, 0, 100, 100);
            x.setMove(0, 0, -500);
            due("the least", x.margin(0), 50000);
            x.setMove(0, 0, 500);
            due("the greatest", x.margin(1), 50000);
        });
        Sentences.says("Returns the move before.", () -> {
            BookExchange x = new BookExchange();
            due("0", x.setMove(5, 2, -500), 0);
            due("-500", x.setMove(5, 2, 500), -500);
            due("500", x.setMove(5, 2, 0), 500);
            due("0 again", x.setMove(5, 2, 3), 0);
            due("of another scenario", x.setMove(4, 2, 3), 0);
            due("of another contract", x.setMove(5, 1, 3), 0);
        });
        Sentences.says("Throws `IndexOutOfBoundsException` if there is no such scenario or contract", () -> {
            beside(INDEX, 0, 5, (x, s) -> x.setMove(s, 0, 1));
            beside(INDEX, 0, 2, (x, c) -> x.setMove(0, c, 1));
        });
        Sentences.says("Throws `IllegalArgumentException` if move is out of range", () -> beside(ARGUMENT, -500, 500, (x, move) -> x.setMove(5, 2, move)));
    }
}
