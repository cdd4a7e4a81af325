/** Exchanges as tests begin with them. */
public final class Setups {
    private Setups() {
    }

    /** All books OPEN, and members with the greatest deposit. */
    public static BookExchange open() {
        BookExchange x = new BookExchange();
        for (int member = 0; member < 6; member++) {
            x.deposit(member, 1000000);
        }
        for (int book = 0; book < 5; book++) {
            x.call(book);
            x.uncross(book);
        }
        return x;
    }

    /** A trade between two members in the book of a contract, whose mark it sets. */
    public static void trade(BookExchange x, int buyer, int seller, int contract, int price, int size) {
        x.order(seller, contract, false, price, size, size);
        x.now(buyer, contract, true, price, size);
    }

    /** What there is to be asked of an exchange, as one text. */
    public static String all(BookExchange x) {
        StringBuilder text = new StringBuilder();
        text.append(x.orders()).append(' ').append(x.trades()).append(' ').append(x.capital()).append(' ').append(x.uncovered());
        for (int b = 0; b < 5; b++) {
            text.append("\nbook ").append(x.phase(b)).append(' ').append(x.auction(b));
            for (int side = 0; side < 2; side++) {
                boolean isBuy = side == 0;
                text.append(' ').append(x.best(b, isBuy)).append(' ').append(x.bestByAll(b, isBuy));
                text.append(' ').append(x.way(b, isBuy)).append(' ').append(x.wayPrice(b, isBuy));
            }
        }
        for (int c = 0; c < 3; c++) {
            text.append("\ncontract ").append(x.mark(c)).append(' ').append(x.middle(c));
        }
        for (int m = 0; m < 6; m++) {
            text.append("\nmember ").append(x.cash(m)).append(' ').append(x.funds(m)).append(' ').append(x.margin(m));
            text.append(' ').append(x.need(m)).append(' ').append(x.share(m)).append(' ').append(x.isOut(m));
            for (int c = 0; c < 3; c++) {
                text.append(' ').append(x.position(m, c)).append(' ').append(x.positionByTrades(m, c));
            }
        }
        for (int o = 0; o < x.orders(); o++) {
            text.append("\norder ").append(x.state(o)).append(' ').append(x.left(o)).append(' ').append(x.shows(o));
        }
        for (int t = 0; t < x.trades(); t++) {
            text.append("\ntrade");
            for (int f = 0; f < 6; f++) {
                text.append(' ').append(x.trade(t, f));
            }
        }
        return text.toString();
    }
}
