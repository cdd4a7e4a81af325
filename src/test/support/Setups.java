/** Exchanges as tests begin with them. */
public final class Setups {
    /** A call that answers something. */
    public interface Act {
        long on(BookExchange x);
    }

    /** A call with a number that is to be tried. */
    public interface Numbered {
        long on(BookExchange x, int number);
    }

    private Setups() {
    }

    /** All books OPEN, and members with the greatest deposit. */
    public static BookExchange open() {
        BookExchange x = new BookExchange();
        for (int member = 0; member < 6; member++) {
            x.deposit(member, 1000000);
        }
        for (int book = 0; book < 5; book++) {
            x.call(book);
            x.uncross(book);
        }
        return x;
    }

    /** As open(), with the member 5 OUT, who has bought and lost in the trade 0. */
    public static BookExchange withOut() {
        BookExchange x = open();
        x.deposit(5, -1000000);
        trade(x, 5, 4, 2, 100, 1);
        trade(x, 3, 4, 2, 99, 1);
        x.fail(5);
        return x;
    }

    /** As open(), with a number of orders that rest. */
    public static BookExchange withOrders(int count) {
        BookExchange x = open();
        for (int i = 0; i < count; i++) {
            x.order(0, 0, true, 1, 1, 1);
        }
        return x;
    }

    /** A trade between two members in the book of a contract, whose mark it sets. */
    public static void trade(BookExchange x, int buyer, int seller, int contract, int price, int size) {
        x.order(seller, contract, false, price, size, size);
        x.now(buyer, contract, true, price, size);
    }

    /** What there is to be asked of an exchange, as one text. */
    public static String all(BookExchange x) {
        StringBuilder text = new StringBuilder();
        text.append(x.orders()).append(' ').append(x.trades()).append(' ').append(x.capital()).append(' ').append(x.uncovered());
        for (int b = 0; b < 5; b++) {
            text.append("\nbook ").append(x.phase(b)).append(' ').append(x.auction(b));
            for (int side = 0; side < 2; side++) {
                boolean isBuy = side == 0;
                text.append(' ').append(x.best(b, isBuy)).append(' ').append(x.bestByAll(b, isBuy));
                text.append(' ').append(x.way(b, isBuy)).append(' ').append(x.wayPrice(b, isBuy));
            }
        }
        for (int c = 0; c < 3; c++) {
            text.append("\ncontract ").append(x.mark(c)).append(' ').append(x.middle(c));
        }
        for (int m = 0; m < 6; m++) {
            text.append("\nmember ").append(x.cash(m)).append(' ').append(x.funds(m)).append(' ').append(x.margin(m));
            text.append(' ').append(x.need(m)).append(' ').append(x.share(m)).append(' ').append(x.isOut(m));
            for (int c = 0; c < 3; c++) {
                text.append(' ').append(x.position(m, c)).append(' ').append(x.positionByTrades(m, c));
            }
        }
        for (int o = 0; o < x.orders(); o++) {
            text.append("\norder ").append(x.state(o)).append(' ').append(x.left(o)).append(' ').append(x.shows(o));
        }
        for (int t = 0; t < x.trades(); t++) {
            text.append("\ntrade");
            for (int f = 0; f < 6; f++) {
                text.append(' ').append(x.trade(t, f));
            }
        }
        return text.toString();
    }

    // Calls that leave something of each kind: see rich().
    private static final Act[] STORY = {
        x -> x.deposit(0, 1000000), x -> x.deposit(1, 1000000), x -> x.deposit(2, 1000000),
        x -> x.deposit(3, 1000000), x -> x.deposit(4, 1000000), x -> x.deposit(5, 100),
        x -> x.call(0), x -> x.call(1), x -> x.call(2), x -> x.call(3), x -> x.call(4),
        x -> x.uncross(0), x -> x.uncross(1), x -> x.uncross(2), x -> x.uncross(3), x -> x.uncross(4),
        x -> x.setShare(0, 50), x -> x.setShare(5, 3), x -> x.setCapital(7), x -> x.protect(1, 40),
        x -> x.setMove(2, 1, -3), x -> x.setMove(0, 0, -2), x -> x.setShares(1, true) ? 1 : 0,
        x -> x.order(4, 1, false, 100, 2, 2), x -> x.now(5, 1, true, 100, 2),
        x -> x.order(3, 1, false, 40, 1, 1), x -> x.now(4, 1, true, 40, 1),
        x -> x.fail(5),
        x -> x.order(2, 2, false, 120, 3, 3), x -> x.now(0, 2, true, 120, 1), x -> x.now(4, 2, true, 120, 1), x -> x.bust(5),
        x -> x.order(0, 0, true, 95, 9, 4), x -> x.order(2, 0, false, 105, 8, 3), x -> x.quote(1, 0, 96, 104, 5),
        x -> x.quote(1, 3, -6, 6, 4), x -> x.stop(3, 0, true, 110, 2, 108), x -> x.order(4, 4, true, -9, 7, 2),
        x -> x.order(4, 1, false, 130, 2, 2), x -> x.cancel(15), x -> x.now(3, 0, false, 96, 2),
        x -> band(x, 1, 500, 0), x -> x.order(3, 1, false, 41, 2, 1), x -> x.order(4, 1, true, 41, 2, 1),
        x -> x.call(2), x -> x.shut(4), x -> x.bid(0, 10), x -> x.bid(2, 20)
    };

    public static int band(BookExchange x, int contract, int middle, int band) {
        x.setBand(contract, middle, band);
        return 0;
    }

    public static Act[] story() {
        return STORY.clone();
    }

    /**
     * The books 0 and 3 OPEN, 1 HALTED, 2 in a CALL, 4 SHUT; 5 OUT; orders of each state, quotes, trades, a busted one,
     * a protection, moves, shares, a capital, and bids of 0 and 2. The orders 0 and 15 are DONE and CANCELLED, 13 is WAITING, 7 rests;
     * the trade 5 is busted.
     */
    public static BookExchange rich() {
        BookExchange x = new BookExchange();
        for (Act act : STORY) {
            act.on(x);
        }
        return x;
    }

    /** What there is to be asked, and what calls answer that put it back. */
    public static String deep(BookExchange x) {
        StringBuilder text = new StringBuilder(all(x));
        for (int m = 0; m < 6; m++) {
            int most = x.protect(m, 0);
            x.protect(m, most);
            text.append("\nprotection ").append(most);
            if (!x.isOut(m)) {
                text.append(" collateral ").append(x.deposit(m, 0));
            }
        }
        for (int s = 0; s < 6; s++) {
            for (int c = 0; c < 3; c++) {
                int move = x.setMove(s, c, 0);
                x.setMove(s, c, move);
                text.append("\nmove ").append(move);
            }
        }
        for (int b = 0; b < 5; b++) {
            boolean isShares = x.setShares(b, false);
            x.setShares(b, isShares);
            text.append("\nby shares ").append(isShares);
        }
        return text.append("\nbids ").append(x.isOut(4) ? NO_BIDS : x.bid(4, 0)).toString();
    }

    private static final int NO_BIDS = -1;
}
