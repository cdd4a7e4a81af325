/** Promises 17 to 19, sentence by sentence. */
final class PromisesOfTrades extends Shorthand {
    private PromisesOfTrades() {
    }

    static void all() {
        bust();
        bustThrows();
        bid();
        fail();
        failThrows();
    }

    private static void bust() {
        Sentences.part("## Promise 17: bust");
        Sentences.says("Busts a trade: positions and cash are as if it had not been, nothing else changes.", () -> {
            BookExchange x = Setups.open();
            Setups.trade(x, 0, 1, 0, 104, 3);
            int waits = x.stop(2, 0, true, 90, 1, 104);
            Setups.trade(x, 0, 1, 0, 103, 2);
            x.bust(0);
            due("positions", x.position(0, 0) * 10 + x.position(1, 0), 18);
            due("by trades", x.positionByTrades(0, 0) * 10 + x.positionByTrades(1, 0), 18);
            due("cash", x.cash(0), -206);
            due("of the other one", x.cash(1), 206);
            due("orders are DONE still", x.state(0) + x.state(1), 2 * BookExchange.DONE);
            due("nor is anything left of them", x.left(0) + x.left(1), 0);
            x.bust(1);
            due("the mark stays", x.mark(0), 103);
            due("its other figures stay", x.trade(1, BookExchange.PRICE) * 10 + x.trade(1, BookExchange.SIZE), 1032);
            due("it counts", x.trades(), 2);
            due("no trigger is reached", x.state(waits), BookExchange.WAITING);
            due("nobody has anything", Math.abs(x.position(0, 0)) + Math.abs(x.cash(0)) + Math.abs(x.cash(1)), 0);
            BookExchange y = Setups.open();
            sells(y, 1, 3, -500, 2);
            sells(y, 2, 1, 100, 2);
            y.now(0, 0, true, 1, 2);
            y.bust(0);
            due("a price below 0", y.cash(0), 0);
            due("one of two trades of a step alone", y.position(1, 0) * 10 + y.position(1, 1), 2);
            y.call(2);
            buys(y, 4, 2, 100, 1);
            sells(y, 4, 2, 100, 1);
            y.uncross(2);
            due("one with oneself", y.bust(2), 1);
            due("leaves all as it is", Math.abs(y.position(4, 2)) + Math.abs(y.cash(4)), 0);
        });
        Sentences.says("`trade`: its number", () -> {
            BookExchange x = Setups.open();
            for (int i = 0; i < 3; i++) {
                Setups.trade(x, 0, 1, 0, 100, 1 + i);
            }
            due("the first", x.bust(0), 1);
            due("the last", x.bust(2), 3);
            due("no other one", x.trade(0, 5) * 100 + x.trade(1, 5) * 10 + x.trade(2, 5), 101);
        });
        Sentences.says("Returns its size.", () -> {
            BookExchange x = Setups.open();
            Setups.trade(x, 0, 1, 0, 100, 1);
            Setups.trade(x, 0, 1, 0, 100, 100);
            due("1", x.bust(0), 1);
            due("100", x.bust(1), 100);
        });
    }

    private static void bustThrows() {
        Sentences.says("Throws `IndexOutOfBoundsException` if there is no such trade", () -> {
            throwsIt("none at all", INDEX, () -> new BookExchange().bust(0));
            int[] wrong = {-1, 7, Integer.MIN_VALUE, Integer.MAX_VALUE};
            for (int trade : wrong) {
                refuses("" + trade, INDEX, x -> x.bust(trade));
            }
        });
        Sentences.says("Throws `IllegalStateException` if it was busted,", () -> {
            refuses("busted", STATE, x -> x.bust(5));
            BookExchange x = Setups.open();
            Setups.trade(x, 0, 1, 0, 100, 4);
            x.bust(0);
            throwsIt("twice", STATE, () -> x.bust(0));
            due("positions are as before", x.position(0, 0), 0);
        });
        Sentences.says("or a member of it is OUT", () -> {
            refuses("the buyer", STATE, x -> x.bust(0));
            refuses("the seller", STATE, x -> x.bust(2));
            refuses("of a trade of the default", STATE, x -> x.bust(3));
            refuses("busted and OUT", STATE, () -> {
                BookExchange x = Setups.open();
                Setups.trade(x, 0, 1, 0, 100, 1);
                x.bust(0);
                Setups.trade(x, 0, 1, 0, 100, 1);
                x.deposit(0, -1000000);
                x.setMove(0, 0, -1);
                x.fail(0);
                return x;
            }, x -> x.bust(0));
            BookExchange y = Setups.withOut();
            due("neither is", y.bust(1), 1);
        });
    }

    private static void bid() {
        Sentences.part("## Promise 18: bid");
        Sentences.says("Bids for the positions of the next one in default, in place of an earlier bid.", () -> {
            BookExchange x = broken(0);
            x.bid(1, 5);
            x.bid(2, 9);
            x.bid(1, 10);
            due("9 is less than 10, in place of 5", x.fail(0), 2);
            due("the amount is that of the bid", x.cash(2), -850 + 9);
            BookExchange y = broken(0);
            y.bid(2, 9);
            y.fail(0);
            lose(y, 1);
            due("for the next one alone", y.fail(1), BookExchange.NONE);
        });
        Sentences.says("`member`: 0 to 5", () -> PromisesOfBooks.range(INDEX, 0, 5, (x, m) -> x.bid(m, 1)));
        Sentences.says("`amount`: -1000000 to 1000000: what it wants to be paid", () -> {
            PromisesOfBooks.beside(ARGUMENT, -1000000, 1000000, (x, amount) -> x.bid(0, amount));
            int[] amounts = {-1000000, -1, 0, 1, 1000000};
            for (int amount : amounts) {
                BookExchange x = broken(0);
                x.deposit(2, 1000000);
                x.bid(2, amount);
                due("a bid of " + amount, x.fail(0), 2);
                due("it is paid", x.cash(2), amount - 850);
            }
        });
        Sentences.says("Returns how many have bid.", () -> {
            BookExchange x = broken(0);
            due("one", x.bid(5, 0), 1);
            due("one, in place of it", x.bid(5, 1), 1);
            for (int m = 0; m < 5; m++) {
                due("one more", x.bid(m, 0), m + 2);
            }
            due("all, in place of one", x.bid(0, 7), 6);
            x.fail(0);
            due("one again", x.bid(4, 0), 1);
        });
        Sentences.says("Throws `IndexOutOfBoundsException` if there is no such member", () -> PromisesOfBooks.beside(INDEX, 0, 5, (x, m) -> x.bid(m, 1)));
        Sentences.says("Throws `IllegalArgumentException` if amount is out of range", () -> {
            PromisesOfBooks.beside(ARGUMENT, -1000000, 1000000, (x, amount) -> x.bid(3, amount));
            BookExchange x = broken(0);
            x.bid(2, 3);
            throwsIt("in place of an earlier one", ARGUMENT, () -> x.bid(2, 1000001));
            x.fail(0);
            due("that stays", x.cash(2), 3 - 850);
        });
        Sentences.says("Throws `IllegalStateException` if the member is OUT", () -> {
            refuses("OUT", STATE, Setups::withOut, x -> x.bid(5, 0));
            BookExchange x = Setups.withOut();
            x.bid(1, 0);
            throwsIt("OUT", STATE, () -> x.bid(5, 0));
            due("it has not bid", x.bid(2, 0), 2);
        });
    }

    /** A member bought 10 of the contract 0 at 100 and has lost 150: its funds are -50. */
    private static BookExchange broken(int member) {
        BookExchange x = Setups.open();
        x.deposit(member, 100 - 1000000);
        Setups.trade(x, member, member == 5 ? 4 : 5, 0, 100, 10);
        Setups.trade(x, member == 3 ? 2 : 3, member == 4 ? 2 : 4, 0, 85, 1);
        return x;
    }

    /** Lets a member who has no position have funds below 0. */
    private static void lose(BookExchange x, int member) {
        x.deposit(member, -1000000);
        Setups.trade(x, member, 3, 1, 100, 1);
        Setups.trade(x, 3, 4, 1, 90, 1);
        due("its funds", x.funds(member), -10);
    }

    private static void fail() {
        Sentences.part("## Promise 19: fail");
        Sentences.says("Puts a member in default.", () -> {
            BookExchange x = broken(0);
            int rests = x.order(1, 2, true, 50, 3, 3);
            due("NONE", x.fail(0), BookExchange.NONE);
            due("OUT", x.isOut(0), true);
            due("its position is torn up", x.position(0, 0), 0);
            due("its loss is uncovered", x.uncovered(), 50);
            due("no other one is", x.isOut(1) || x.state(rests) != BookExchange.RESTING, false);
        });
        Sentences.says("`member`: 0 to 5", () -> {
            for (int m = 0; m < 6; m++) {
                BookExchange x = broken(m);
                due("nobody takes over", x.fail(m), BookExchange.NONE);
                for (int k = 0; k < 6; k++) {
                    due("OUT", x.isOut(k), k == m);
                }
            }
            PromisesOfBooks.beside(INDEX, 0, 5, (x, m) -> x.fail(m));
        });
        Sentences.says("Returns who takes over its positions; NONE if nobody does.", () -> {
            for (int m = 0; m < 6; m++) {
                BookExchange x = broken(0);
                x.bid(m, 0);
                due("one has bid", x.fail(0), m == 0 ? BookExchange.NONE : m);
                due("it has them", m == 0 || x.isOut(m) || x.position(m, 0) == 10 - (m == 5 ? 10 : m == 4 ? 1 : m == 3 ? -1 : 0), true);
            }
            due("nobody has bid", broken(0).fail(0), BookExchange.NONE);
        });
    }

    private static void failThrows() {
        Sentences.says("Throws `IndexOutOfBoundsException` if there is no such member", () -> PromisesOfBooks.beside(INDEX, 0, 5, (x, m) -> x.fail(m)));
        Sentences.says("Throws `IllegalStateException` if the member is OUT,", () -> {
            refuses("OUT", STATE, Setups::withOut, x -> x.fail(5));
            BookExchange x = Setups.withOut();
            for (int s = 0; s < 6; s++) {
                x.setMove(s, 2, -500);
            }
            throwsIt("whatever moves", STATE, () -> x.fail(5));
        });
        Sentences.says("or its funds are not below the margin of its positions", () -> {
            refuses("one who has nothing", STATE, BookExchange::new, x -> x.fail(0));
            refuses("one with funds", STATE, Setups::open, x -> x.fail(0));
            for (int more = -1; more < 2; more++) {
                BookExchange x = Setups.open();
                Setups.trade(x, 0, 1, 0, 100, 10);
                x.deposit(0, 100 + more - 1000000);
                x.setMove(2, 0, -10);
                due("a margin of 100, funds of " + (100 + more), Checks.of(() -> x.fail(0)), more < 0 ? BookExchange.NONE : STATE);
            }
            BookExchange y = Setups.open();
            Setups.trade(y, 0, 1, 0, 100, 1);
            y.deposit(0, -1000000);
            throwsIt("0 is not below 0", STATE, () -> y.fail(0));
            Setups.trade(y, 2, 3, 0, 99, 1);
            due("-1 is", y.fail(0), BookExchange.NONE);
            BookExchange z = Setups.open();
            buys(z, 0, 0, 50, 10);
            z.deposit(0, -1000000);
            z.setMove(2, 0, -10);
            due("a need of 100", z.need(0), 100);
            throwsIt("is no margin", STATE, () -> z.fail(0));
        });
    }
}
