/** Promises 1 to 6: a new object, and calls on books. */
public final class BooksTest extends Shorthand {
    public static void main(String[] args) {
        aNewObject();
        call();
        shut();
        uncross();
        uncrossChoosesThePrice();
        uncrossByLeftNotByShown();
        uncrossOfASpread();
        uncrossOfAHaltedBook();
        setShares();
        setBand();
        Checks.end("BooksTest");
    }

    private static void aNewObject() {
        BookExchange x = new BookExchange();
        for (int book = 0; book < 5; book++) {
            due("p1 phase", x.phase(book), BookExchange.SHUT);
            due("p1 best", x.best(book, true), BookExchange.NONE);
            due("p1 bestByAll", x.bestByAll(book, false), BookExchange.NONE);
            due("p1 auction", x.auction(book), BookExchange.NO_PRICE);
            due("p1 setShares", x.setShares(book, false), false);
        }
        for (int contract = 0; contract < 3; contract++) {
            due("p1 mark", x.mark(contract), 100);
            due("p1 middle", x.middle(contract), 100);
        }
        for (int member = 0; member < 6; member++) {
            due("p1 funds", x.funds(member), 0);
            due("p1 cash", x.cash(member), 0);
            due("p1 share", x.share(member), 0);
            due("p1 margin", x.margin(member), 0);
            due("p1 need", x.need(member), 0);
            due("p1 position", x.position(member, member % 3), 0);
            due("p1 isOut", x.isOut(member), false);
            due("p1 protect", x.protect(member, 0), 0);
        }
        for (int scenario = 0; scenario < 6; scenario++) {
            due("p1 setMove", x.setMove(scenario, scenario % 3, 0), 0);
        }
        due("p1 orders", x.orders(), 0);
        due("p1 trades", x.trades(), 0);
        due("p1 capital", x.capital(), 0);
        due("p1 uncovered", x.uncovered(), 0);
    }

    private static void call() {
        BookExchange x = new BookExchange();
        due("p2 of a SHUT book", x.call(0), BookExchange.SHUT);
        due("p2 phase", x.phase(0), BookExchange.CALL);
        due("p2 other book", x.phase(1), BookExchange.SHUT);
        throwsIt("p2 in a CALL", STATE, () -> x.call(0));
        x.uncross(0);
        due("p2 of an OPEN book", x.call(0), BookExchange.OPEN);
        due("p2 of a spread", x.call(4), BookExchange.SHUT);
        throwsIt("p2 book 5", INDEX, () -> x.call(5));
        throwsIt("p2 book -1", INDEX, () -> x.call(-1));
        BookExchange y = Setups.open();
        y.setBand(0, 100, 0);
        y.order(0, 0, false, 101, 1, 1);
        y.now(1, 0, true, 101, 1);
        due("p2 of a HALTED book", y.call(0), BookExchange.HALTED);
    }

    private static void shut() {
        BookExchange x = Setups.open();
        int order = x.order(0, 0, true, 90, 5, 3);
        due("p3 of an OPEN book", x.shut(0), BookExchange.OPEN);
        due("p3 phase", x.phase(0), BookExchange.SHUT);
        due("p3 orders stay", x.state(order), BookExchange.RESTING);
        due("p3 they show", x.shows(order), 3);
        due("p3 they are the best ones", x.best(0, true), order);
        due("p3 no way through it", x.wayPrice(0, false), BookExchange.NO_PRICE);
        throwsIt("p3 SHUT", STATE, () -> x.shut(0));
        x.call(0);
        due("p3 of a book in a CALL", x.shut(0), BookExchange.CALL);
        throwsIt("p3 book 5", INDEX, () -> x.shut(5));
        throwsIt("p3 book -1", INDEX, () -> x.shut(-1));
    }

    private static void uncross() {
        BookExchange x = Setups.open();
        throwsIt("p4 OPEN", STATE, () -> x.uncross(0));
        x.shut(0);
        throwsIt("p4 SHUT", STATE, () -> x.uncross(0));
        throwsIt("p4 book 5", INDEX, () -> x.uncross(5));
        throwsIt("p4 book -1", INDEX, () -> x.uncross(-1));
        x.call(0);
        due("p4 of an empty book", x.uncross(0), 0);
        due("p4 the book is OPEN", x.phase(0), BookExchange.OPEN);
        due("p4 the middle stays", x.middle(0), 100);
        x.call(0);
        x.order(0, 0, true, 103, 4, 4);
        x.order(1, 0, true, 105, 3, 3);
        x.order(2, 0, false, 101, 6, 6);
        x.order(0, 0, false, 104, 9, 9);
        x.setBand(0, 500, 0);
        // At 101: 7 and 6; at 103: 7 and 6; at 104: 3 and 15: the greatest size is 6, the gap 1 at both, 101 is nearer.
        due("p4 auction", x.auction(0), 101);
        due("p4 size", x.uncross(0), 6);
        due("p4 trades, best ones first", x.trades(), 2);
        dueTrade(x, 0, 0, 1, 2, 101, 3);
        dueTrade(x, 1, 0, 0, 2, 101, 3);
        due("p4 left", x.left(0), 1);
        due("p4 mark", x.mark(0), 101);
        due("p4 middle, whatever the band", x.middle(0), 101);
        due("p4 OPEN", x.phase(0), BookExchange.OPEN);
        x.call(0);
        x.order(0, 0, false, 100, 1, 1);
        due("p4 members may trade with themselves", x.uncross(0), 1);
        dueTrade(x, 2, 0, 0, 0, 100, 1);
        due("p4 to no effect", x.position(0, 0), 3);
    }

    private static void uncrossChoosesThePrice() {
        BookExchange x = Setups.open();
        x.call(1);
        x.order(0, 1, true, 110, 5, 5);
        x.order(1, 1, false, 90, 5, 5);
        due("p29 nearest alike: the lowest", x.auction(1), 90);
        x.order(0, 1, true, 89, 1, 1);
        x.cancel(0);
        x.order(0, 1, true, 109, 5, 5);
        due("p29 the nearest to the mark", x.auction(1), 109);
        x.order(2, 1, true, 95, 1, 1);
        due("p29 the least gap", x.auction(1), 109);
        x.order(2, 1, false, 105, 2, 2);
        // At 90 and 95: 6 against 5, gap 1; at 105 and 109: 5 against 7, gap 2.
        due("p29 the least gap ahead of the nearest one", x.auction(1), 95);
        x.order(3, 1, true, 106, 3, 3);
        // At 105 and 106: 8 against 7; at 109: 5 against 7.
        due("p29 the greatest size ahead of the least gap", x.auction(1), 105);
        x.call(0);
        x.order(0, 0, true, 100, 10, 10);
        x.order(0, 0, true, 110, 2, 2);
        x.order(1, 0, false, 100, 5, 5);
        x.order(1, 0, false, 110, 1, 1);
        due("p29 at 100 5 with a gap of 7, at 110 2 with a gap of 4", x.auction(0), 100);
        x.call(2);
        x.order(0, 2, true, 110, 3, 3);
        x.order(0, 2, true, 90, 2, 2);
        x.order(1, 2, false, 90, 3, 3);
        x.order(1, 2, false, 110, 2, 2);
        due("p29 at 90 and 110 3 with a gap of 2: the lowest", x.auction(2), 90);
    }

    private static void uncrossByLeftNotByShown() {
        BookExchange x = Setups.open();
        x.call(0);
        int early = x.order(0, 0, false, 100, 20, 4);
        int late = x.order(1, 0, false, 100, 20, 20);
        x.order(2, 0, true, 100, 10, 2);
        due("p4 hidden sizes trade", x.uncross(0), 10);
        due("p4 by one trade, as nothing is stamped anew", x.trades(), 1);
        due("p4 the earlier one", x.left(early), 10);
        due("p4 the later one", x.left(late), 20);
        due("p4 shows the lesser one", x.shows(early), 4);
        due("p4 its stamp stays", x.best(0, false), early);
        x.now(3, 0, true, 100, 3);
        due("p4 shows what is not traded", x.shows(early), 1);
        x.call(0);
        due("p4 nothing traded", x.uncross(0), 0);
        due("p4 shows anew though nothing was traded", x.shows(early), 4);
        due("p4 its stamp stays so too", x.best(0, false), early);
        x.now(3, 0, true, 100, 6);
        due("p4 shows not more than is left", x.shows(early), 3);
        x.call(0);
        x.uncross(0);
        due("p4 again", x.shows(early), 3);
        int buy = x.order(2, 0, true, 90, 9, 5);
        x.now(3, 0, false, 90, 2);
        due("p4 to buy", x.shows(buy), 3);
        x.call(0);
        x.uncross(0);
        due("p4 those that buy show anew too", x.shows(buy), 5);
    }

    private static void uncrossOfASpread() {
        BookExchange x = Setups.open();
        Setups.trade(x, 4, 5, 1, 80, 1);
        x.call(3);
        x.order(0, 3, true, 10, 5, 5);
        x.order(1, 3, false, -10, 4, 4);
        due("p4 the lowest one of those nearest to 0", x.auction(3), -10);
        x.order(2, 3, false, 4, 1, 1);
        due("p4 the greatest size", x.auction(3), 4);
        due("p4 size of a spread", x.uncross(3), 5);
        due("p4 two trades for each", x.trades(), 5);
        dueTrade(x, 1, 1, 1, 0, 80, 4);
        dueTrade(x, 2, 0, 0, 1, 84, 4);
        dueTrade(x, 3, 1, 2, 0, 80, 1);
        dueTrade(x, 4, 0, 0, 2, 84, 1);
        due("p4 a spread moves no mark", x.mark(0), 100);
        due("p4 nor that of the second contract", x.mark(1), 80);
        due("p4 nor a middle", x.middle(0), 100);
    }

    private static void uncrossOfAHaltedBook() {
        BookExchange x = Setups.open();
        x.setBand(0, 100, 0);
        x.order(0, 0, false, 105, 2, 2);
        x.order(1, 0, true, 106, 3, 3);
        due("p4 it is HALTED", x.phase(0), BookExchange.HALTED);
        due("p4 and crosses: 2 at both prices, 105 is nearer to the mark", x.auction(0), 105);
        x.cancel(1);
        x.order(1, 0, true, 105, 3, 3);
        due("p4 a HALTED book uncrosses, without its band", x.uncross(0), 2);
        due("p4 its middle", x.middle(0), 105);
        x.order(0, 0, false, 105, 1, 1);
        due("p4 the band is around the new middle", x.left(2), 0);
        due("p4 OPEN", x.phase(0), BookExchange.OPEN);
    }

    private static void setShares() {
        BookExchange x = Setups.open();
        due("p5 at first by time", x.setShares(0, true), false);
        due("p5 then by shares", x.setShares(0, true), true);
        due("p5 another book", x.setShares(4, false), false);
        x.order(0, 0, false, 100, 2, 2);
        x.order(1, 0, false, 100, 9, 9);
        x.order(2, 0, false, 100, 3, 3);
        x.now(3, 0, true, 100, 8);
        due("p5 the first one all it shows", x.left(0), 0);
        due("p5 others by shares: 6 of 12", x.left(1), 4);
        due("p5 one more that is left over", x.left(2), 2);
        due("p5 by time again", x.setShares(0, false), true);
        x.now(3, 0, true, 100, 4);
        due("p5 the first one alone", x.left(1), 0);
        due("p5 the second one not", x.left(2), 2);
        throwsIt("p5 book 5", INDEX, () -> x.setShares(5, true) ? 1 : 0);
        throwsIt("p5 book -1", INDEX, () -> x.setShares(-1, true) ? 1 : 0);
    }

    private static void setBand() {
        BookExchange x = Setups.open();
        x.setBand(2, 200, 10);
        due("p6 middle", x.middle(2), 200);
        due("p6 another one's", x.middle(1), 100);
        Setups.trade(x, 0, 1, 2, 210, 1);
        Setups.trade(x, 0, 1, 2, 190, 1);
        due("p6 at its edge it trades", x.trades(), 2);
        Setups.trade(x, 0, 1, 2, 189, 1);
        due("p6 beyond it not", x.trades(), 2);
        due("p6 but is HALTED", x.phase(2), BookExchange.HALTED);
        due("p6 the mark is that of trades", x.mark(2), 190);
        x.setBand(0, 1, 0);
        x.setBand(0, 999, 999);
        throwsIt("p6 contract 3", INDEX, () -> band(x, 3, 100, 10));
        throwsIt("p6 contract -1, and a wrong middle", INDEX, () -> band(x, -1, 0, 10));
        throwsIt("p6 middle 0", ARGUMENT, () -> band(x, 0, 0, 10));
        throwsIt("p6 middle 1000", ARGUMENT, () -> band(x, 0, 1000, 10));
        throwsIt("p6 band -1", ARGUMENT, () -> band(x, 0, 100, -1));
        throwsIt("p6 band 1000", ARGUMENT, () -> band(x, 0, 100, 1000));
        due("p6 what throws changes nothing", x.middle(0), 999);
    }

    private static int band(BookExchange x, int contract, int middle, int band) {
        x.setBand(contract, middle, band);
        return 0;
    }
}
