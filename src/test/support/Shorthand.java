/** What tests call again and again. */
public class Shorthand {
    protected static final long INDEX = Checks.INDEX, ARGUMENT = Checks.ARGUMENT, STATE = Checks.STATE;

    protected static void due(String what, long got, long want) {
        Checks.due(what, got, want);
    }

    protected static void due(String what, boolean got, boolean want) {
        Checks.due(what, got, want);
    }

    protected static void throwsIt(String what, long want, Checks.Call call) {
        Checks.throwsIt(what, want, call);
    }

    protected static void dueTrade(BookExchange x, int trade, int contract, int buyer, int seller, int price, int size) {
        String what = "trade " + trade + ": ";
        due(what + "contract", x.trade(trade, BookExchange.CONTRACT), contract);
        due(what + "buyer", x.trade(trade, BookExchange.BUYER), buyer);
        due(what + "seller", x.trade(trade, BookExchange.SELLER), seller);
        due(what + "price", x.trade(trade, BookExchange.PRICE), price);
        due(what + "size", x.trade(trade, BookExchange.SIZE), size);
        due(what + "busted", x.trade(trade, BookExchange.BUSTED), 0);
    }
}
