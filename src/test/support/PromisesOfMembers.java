/** Promises 32 to 43, sentence by sentence. */
final class PromisesOfMembers extends Shorthand {
    private static final String NO_MEMBER = "Throws `IndexOutOfBoundsException` if there is no such member";

    private PromisesOfMembers() {
    }

    static void all() {
        trades();
        trade();
        position();
        positionByTrades();
        cash();
        funds();
        margin();
        need();
        share();
        isOut();
        capital();
        uncovered();
    }

    private static void member(Setups.Numbered call) {
        Sentences.says("`member`: 0 to 5", () -> PromisesOfQuestions.answers(0, 5, call));
    }

    private static void noMember(Setups.Numbered call) {
        Sentences.says(NO_MEMBER, () -> PromisesOfQuestions.noSuch(0, 5, call));
    }

    private static void trades() {
        Sentences.part("## Promise 32: trades");
        Sentences.says("Returns how many trades there were.", () -> {
            BookExchange x = Setups.open();
            due("none", x.trades(), 0);
            Setups.trade(x, 0, 1, 0, 100, 100);
            due("one of 100", x.trades(), 1);
            x.bust(0);
            due("a busted one counts", x.trades(), 1);
            sells(x, 1, 3, 5, 1);
            x.now(2, 3, true, 5, 1);
            due("a spread is two", x.trades(), 3);
            due("those of a default count", Setups.rich().trades(), 7);
        });
    }

    private static void trade() {
        Sentences.part("## Promise 33: trade");
        Sentences.says("Returns a figure of a trade.", () -> {
            BookExchange x = Setups.open();
            Setups.trade(x, 0, 1, 2, 100, 3);
            Setups.trade(x, 5, 4, 1, 999, 100);
            int[] first = {2, 0, 1, 100, 3, 0}, second = {1, 5, 4, 999, 100, 0};
            for (int f = 0; f < 6; f++) {
                due("of the first one", x.trade(0, f), first[f]);
                due("of the second one", x.trade(1, f), second[f]);
            }
        });
        Sentences.says("`trade`: its number", () -> PromisesOfQuestions.answers(0, 6, (x, t) -> x.trade(t, BookExchange.SIZE)));
        Sentences.says("`figure`: CONTRACT to SIZE; BUSTED: 1 if it was busted, otherwise 0", () -> {
            BookExchange x = Setups.open();
            Setups.trade(x, 3, 4, 2, 77, 9);
            due("CONTRACT", x.trade(0, BookExchange.CONTRACT), 2);
            due("BUYER", x.trade(0, BookExchange.BUYER), 3);
            due("SELLER", x.trade(0, BookExchange.SELLER), 4);
            due("PRICE", x.trade(0, BookExchange.PRICE), 77);
            due("SIZE", x.trade(0, BookExchange.SIZE), 9);
            due("BUSTED", x.trade(0, BookExchange.BUSTED), 0);
            x.bust(0);
            due("BUSTED then", x.trade(0, BookExchange.BUSTED), 1);
        });
        Sentences.says("Returns the figure.", () -> {
            BookExchange x = Setups.open();
            sells(x, 1, 3, -500, 1);
            sells(x, 2, 1, 100, 1);
            x.now(0, 0, true, 1, 1);
            due("a price below 0", x.trade(0, BookExchange.PRICE), -400);
            buys(x, 1, 3, 500, 1);
            buys(x, 2, 1, 999, 1);
            x.setBand(0, 999, 999);
            x.now(0, 0, false, 1, 1);
            due("a price above 999", x.trade(2, BookExchange.PRICE), 1499);
        });
        Sentences.says("Throws `IndexOutOfBoundsException` if there is no such trade", () -> {
            PromisesOfQuestions.noSuch(0, 6, (x, t) -> x.trade(t, BookExchange.SIZE));
            throwsIt("none at all", INDEX, () -> new BookExchange().trade(0, 0));
        });
        Sentences.says("Throws `IllegalArgumentException` if figure is none of these", () -> {
            int[] wrong = {-1, 6, Integer.MIN_VALUE, Integer.MAX_VALUE};
            for (int figure : wrong) {
                refuses("" + figure, ARGUMENT, x -> x.trade(0, figure));
            }
        });
    }

    private interface Place {
        int of(BookExchange x, int member, int contract);
    }

    private static void duePositions(Place place) {
        BookExchange x = Setups.open();
        Setups.trade(x, 0, 1, 2, 100, 7);
        due("bought", place.of(x, 0, 2), 7);
        due("sold", place.of(x, 1, 2), -7);
        due("of another contract, or member", place.of(x, 0, 1) + place.of(x, 2, 2), 0);
        Setups.trade(x, 1, 0, 2, 100, 7);
        due("even", place.of(x, 0, 2), 0);
        x.bust(0);
        due("the first one busted", place.of(x, 0, 2), -7);
        x.call(0);
        buys(x, 3, 0, 100, 4);
        sells(x, 3, 0, 100, 4);
        x.uncross(0);
        due("one's own trade", place.of(x, 3, 0), 0);
        BookExchange y = Setups.withOut();
        due("of one who is OUT", place.of(y, 5, 2), 0);
        due("of one who gave up", place.of(y, 4, 2), -1);
    }

    private static void position() {
        Sentences.part("## Promise 34: position");
        Sentences.says("Returns a position.", () -> duePositions(BookExchange::position));
        member((x, m) -> x.position(m, 0));
        Sentences.says("`contract`: 0 to 2", () -> PromisesOfQuestions.answers(0, 2, (x, c) -> x.position(0, c)));
        Sentences.says("Returns the position.", () -> {
            BookExchange x = Setups.open();
            for (int i = 0; i < 3; i++) {
                Setups.trade(x, i, i + 1, i, 100, 10 + i);
            }
            due("of member 1", x.position(1, 0) * 10000 + x.position(1, 1) * 100 + x.position(1, 2), -100000 + 1100);
        });
        Sentences.says("Throws `IndexOutOfBoundsException` if there is no such member or contract", () -> {
            PromisesOfQuestions.noSuch(0, 5, (x, m) -> x.position(m, 0));
            PromisesOfQuestions.noSuch(0, 2, (x, c) -> x.position(0, c));
        });
    }

    private static void positionByTrades() {
        Sentences.part("## Promise 35: positionByTrades");
        Sentences.says("Returns the same, from all trades.", () -> {
            duePositions(BookExchange::positionByTrades);
            BookExchange x = new BookExchange();
            for (Setups.Act act : Setups.story()) {
                act.on(x);
                for (int m = 0; m < 6; m++) {
                    for (int c = 0; c < 3; c++) {
                        due("of " + m + " in " + c, x.positionByTrades(m, c), x.position(m, c));
                    }
                }
            }
        });
        member((x, m) -> x.positionByTrades(m, 0));
        Sentences.says("`contract`: 0 to 2", () -> PromisesOfQuestions.answers(0, 2, (x, c) -> x.positionByTrades(0, c)));
        Sentences.says("Returns the position.", () -> {
            BookExchange x = Setups.open();
            for (int i = 0; i < 3; i++) {
                Setups.trade(x, i, i + 1, i, 100, 10 + i);
            }
            due("of member 2", x.positionByTrades(2, 0) * 10000 + x.positionByTrades(2, 1) * 100 + x.positionByTrades(2, 2), -1100 + 12);
        });
        Sentences.says("Throws `IndexOutOfBoundsException` if there is no such member or contract", () -> {
            PromisesOfQuestions.noSuch(0, 5, (x, m) -> x.positionByTrades(m, 0));
            PromisesOfQuestions.noSuch(0, 2, (x, c) -> x.positionByTrades(0, c));
        });
    }

    private static void cash() {
        Sentences.part("## Promise 36: cash");
        Sentences.says("Returns the cash of a member.", () -> {
            BookExchange x = Setups.open();
            due("at first, though there is collateral", x.cash(0), 0);
            Setups.trade(x, 0, 1, 2, 50, 3);
            due("of who bought", x.cash(0), -150);
            due("of who sold", x.cash(1), 150);
            due("of others", x.cash(2), 0);
            x.bust(0);
            due("of both, when it is busted", Math.abs(x.cash(0)) + Math.abs(x.cash(1)), 0);
        });
        member((x, m) -> x.cash(m));
        Sentences.says("Returns the cash.", () -> {
            BookExchange x = Setups.withOut();
            due("of one who is OUT", x.cash(5), 0);
            due("of who gave up at 99", x.cash(4), 100 + 99 - 99);
            BookExchange y = Setups.open();
            for (int i = 0; i < 60; i++) {
                Setups.trade(y, 0, 1, 0, 999, 100);
            }
            due("6000 at 999", y.cash(0), -5994000);
            due("of the other one", y.cash(1), 5994000);
        });
        noMember((x, m) -> x.cash(m));
    }

    private static void funds() {
        Sentences.part("## Promise 37: funds");
        Sentences.says("Returns the funds of a member.", () -> {
            BookExchange x = Setups.open();
            Setups.trade(x, 0, 1, 0, 110, 3);
            Setups.trade(x, 2, 3, 0, 100, 1);
            due("3 lost 10", x.funds(0), 999970);
            due("the other one gained them", x.funds(1), 1000030);
            buys(x, 0, 0, 50, 100);
            due("orders cost nothing", x.funds(0), 999970);
            x.setShare(0, 500);
            due("nor does a share", x.funds(0), 999970);
        });
        member((x, m) -> x.funds(m));
        Sentences.says("Returns the funds.", () -> {
            BookExchange x = Setups.open();
            x.deposit(0, -1000000);
            due("none", x.funds(0), 0);
            Setups.trade(x, 0, 1, 0, 100, 1);
            Setups.trade(x, 2, 3, 0, 1, 1);
            due("below 0", x.funds(0), -99);
            due("OUT", Setups.withOut().funds(5), 0);
        });
        noMember((x, m) -> x.funds(m));
    }

    private static void margin() {
        Sentences.part("## Promise 38: margin");
        Sentences.says("Returns the margin of the positions of a member.", () -> {
            BookExchange x = Setups.open();
            Setups.trade(x, 0, 1, 0, 100, 3);
            x.setMove(0, 0, -7);
            x.setMove(1, 0, 5);
            due("of who bought", x.margin(0), 21);
            due("of who sold", x.margin(1), 15);
            due("of others", x.margin(2), 0);
            buys(x, 0, 0, 50, 100);
            due("orders don't count", x.margin(0), 21);
        });
        member((x, m) -> x.margin(m));
        Sentences.says("Returns the margin.", () -> {
            BookExchange x = Setups.open();
            Setups.trade(x, 0, 1, 0, 100, 100);
            due("without moves", x.margin(0), 0);
            for (int s = 0; s < 6; s++) {
                x.setMove(s, 0, 500);
            }
            due("at least 0", x.margin(0), 0);
            due("the greatest", x.margin(1), 50000);
            x.bust(0);
            due("of nothing", x.margin(1), 0);
        });
        noMember((x, m) -> x.margin(m));
    }

    private static void need() {
        Sentences.part("## Promise 39: need");
        Sentences.says("Returns the need of a member.", () -> {
            BookExchange x = Setups.open();
            Setups.trade(x, 0, 1, 0, 100, 3);
            x.setMove(0, 0, -7);
            due("of positions", x.need(0), 21);
            buys(x, 0, 0, 50, 2);
            due("and of orders", x.need(0), 35);
            x.stop(0, 0, true, 50, 1, 150);
            due("WAITING too", x.need(0), 42);
            sells(x, 0, 0, 150, 100);
            due("not of both sides", x.need(0), 42);
            due("of others", x.need(2), 0);
        });
        member((x, m) -> x.need(m));
        Sentences.says("Returns the need.", () -> {
            BookExchange x = Setups.open();
            buys(x, 0, 0, 50, 100);
            due("without moves", x.need(0), 0);
            x.setMove(5, 0, 500);
            due("at least 0", x.need(0), 0);
            x.setMove(5, 0, -500);
            due("the greatest", x.need(0), 50000);
            x.deposit(0, 50000 - 1000000);
            x.setMove(4, 0, -499);
            due("of several", x.need(0), 50000);
            x.cancel(0);
            due("of nothing", x.need(0), 0);
            due("OUT", Setups.withOut().need(5), 0);
        });
        noMember((x, m) -> x.need(m));
    }

    private static void share() {
        Sentences.part("## Promise 40: share");
        Sentences.says("Returns the share of a member in the fund.", () -> {
            BookExchange x = new BookExchange();
            for (int m = 0; m < 6; m++) {
                due("none at first", x.share(m), 0);
                x.setShare(m, 10 + m);
            }
            for (int m = 0; m < 6; m++) {
                due("each its own", x.share(m), 10 + m);
            }
        });
        member((x, m) -> x.share(m));
        Sentences.says("Returns the share.", () -> {
            BookExchange x = new BookExchange();
            x.setShare(0, 1000000);
            due("the greatest", x.share(0), 1000000);
            x.setShare(0, 0);
            due("none", x.share(0), 0);
            due("what a loss has left of 50", Setups.rich().share(0), 40);
            due("OUT", Setups.rich().share(5), 0);
        });
        noMember((x, m) -> x.share(m));
    }

    private static void isOut() {
        Sentences.part("## Promise 41: isOut");
        Sentences.says("Tells whether a member is OUT.", () -> {
            BookExchange x = Setups.withOut();
            for (int m = 0; m < 6; m++) {
                due("member " + m, x.isOut(m), m == 5);
                due("of a new object", new BookExchange().isOut(m), false);
            }
        });
        member((x, m) -> x.isOut(m) ? 1 : 0);
        Sentences.says("Returns whether it is.", () -> {
            BookExchange x = Setups.open();
            x.deposit(0, -1000000);
            Setups.trade(x, 0, 1, 0, 100, 1);
            Setups.trade(x, 2, 3, 0, 99, 1);
            due("with funds below 0 it is not", x.isOut(0), false);
            x.fail(0);
            due("by a default it is", x.isOut(0), true);
        });
        noMember((x, m) -> x.isOut(m) ? 1 : 0);
    }

    private static void capital() {
        Sentences.part("## Promise 42: capital");
        Sentences.says("Returns the capital of the house.", () -> {
            BookExchange x = Setups.open();
            due("none at first", x.capital(), 0);
            x.setCapital(1000000);
            due("the greatest", x.capital(), 1000000);
            x.setCapital(3);
            x.deposit(0, -1000000);
            Setups.trade(x, 0, 1, 0, 100, 2);
            Setups.trade(x, 2, 3, 0, 99, 1);
            x.fail(0);
            due("a loss of 2 leaves 1", x.capital(), 1);
            x.setCapital(0);
            due("none", x.capital(), 0);
        });
    }

    private static void uncovered() {
        Sentences.part("## Promise 43: uncovered");
        Sentences.says("Returns what is uncovered of all losses.", () -> {
            BookExchange x = Setups.open();
            due("none at first", x.uncovered(), 0);
            for (int m = 0; m < 3; m++) {
                x.deposit(m, -1000000);
                Setups.trade(x, m, 5, 0, 100, 2);
            }
            Setups.trade(x, 3, 4, 0, 99, 1);
            x.setCapital(3);
            x.fail(0);
            due("2 of 3", x.uncovered(), 0);
            x.fail(1);
            due("2 of 1", x.uncovered(), 1);
            x.fail(2);
            due("2 of none, together with that", x.uncovered(), 3);
            x.setCapital(9);
            due("a capital that comes later does not cover it", x.uncovered(), 3);
        });
        Sentences.part("## Not promised");
        Sentences.plain("How the state is held", "after its 512th call.");
        Sentences.part("## The public face");
        // FaceTest has a test of each line of it.
        Sentences.plain("```java", "} ```");
    }
}
