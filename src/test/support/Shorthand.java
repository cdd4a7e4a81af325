import java.util.function.Supplier;

/** What tests call again and again. */
public class Shorthand {
    protected static final long INDEX = Checks.INDEX, ARGUMENT = Checks.ARGUMENT, STATE = Checks.STATE;

    protected static void due(String what, long got, long want) {
        Checks.due(what, got, want);
    }

    protected static void due(String what, boolean got, boolean want) {
        Checks.due(what, got, want);
    }

    protected static void throwsIt(String what, long want, Checks.Call call) {
        Checks.throwsIt(what, want, call);
    }

    protected static void dueTrade(BookExchange x, int trade, int contract, int buyer, int seller, int price, int size) {
        String what = "trade " + trade + ": ";
        due(what + "contract", x.trade(trade, BookExchange.CONTRACT), contract);
        due(what + "buyer", x.trade(trade, BookExchange.BUYER), buyer);
        due(what + "seller", x.trade(trade, BookExchange.SELLER), seller);
        due(what + "price", x.trade(trade, BookExchange.PRICE), price);
        due(what + "size", x.trade(trade, BookExchange.SIZE), size);
        due(what + "busted", x.trade(trade, BookExchange.BUSTED), 0);
    }

    /** An exception that changes nothing: what is asked of an exchange afterwards is as without the call. */
    protected static void refuses(String what, long want, Supplier<BookExchange> begin, Setups.Act call) {
        BookExchange x = begin.get(), y = begin.get();
        throwsIt(what, want, () -> call.on(x));
        due(what + " changes nothing", Setups.deep(x).equals(Setups.deep(y)), true);
    }

    protected static void refuses(String what, long want, Setups.Act call) {
        refuses(what, want, Setups::rich, call);
    }

    protected static int buys(BookExchange x, int member, int book, int price, int size) {
        return x.order(member, book, true, price, size, size);
    }

    protected static int sells(BookExchange x, int member, int book, int price, int size) {
        return x.order(member, book, false, price, size, size);
    }

    protected static int asks(boolean isBuy, BookExchange x, int member, int book, int price, int size) {
        return x.order(member, book, isBuy, price, size, size);
    }
}
