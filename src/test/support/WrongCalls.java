import java.util.ArrayList;
import java.util.List;

/** Calls that throw, on Setups.rich(), and the sentences of the Terms' "Exceptions". */
final class WrongCalls extends Shorthand {
    // Each with what it throws; its name tells the call.
    private static final List<String> NAMES = new ArrayList<>();
    private static final List<Long> DUE = new ArrayList<>();
    private static final List<Setups.Act> CALLS = new ArrayList<>();

    private WrongCalls() {
    }

    private static void wrong(String name, long due, Setups.Act call) {
        NAMES.add(name);
        DUE.add(due);
        CALLS.add(call);
    }

    static void sentences() {
        ofBooks();
        ofMembers();
        ofOrders();
        ofTrades();
        ofQuestions();
        Sentences.part("### Exceptions");
        Sentences.says("IndexOutOfBoundsException: there is no such member, book, contract, order, trade or scenario.", () -> dueAll(INDEX));
        Sentences.says("IllegalArgumentException: another argument is out of its range.", () -> dueAll(ARGUMENT));
        Sentences.says("IllegalStateException: as the method tells.", () -> dueAll(STATE));
        several();
        Sentences.says("A call that throws an exception changes nothing.", () -> {
            for (int i = 0; i < CALLS.size(); i++) {
                refuses(NAMES.get(i), DUE.get(i), CALLS.get(i));
            }
        });
        Sentences.plain("The constants:", "members as they are.");
    }

    private static void dueAll(long thrown) {
        BookExchange x = Setups.rich();
        for (int i = 0; i < CALLS.size(); i++) {
            if (DUE.get(i) == thrown) {
                Setups.Act call = CALLS.get(i);
                throwsIt(NAMES.get(i), thrown, () -> call.on(x));
            }
        }
    }

    private static void ofBooks() {
        int[] noBooks = {-1, 5, Integer.MIN_VALUE, Integer.MAX_VALUE};
        for (int b : noBooks) {
            wrong("call", INDEX, x -> x.call(b));
            wrong("shut", INDEX, x -> x.shut(b));
            wrong("uncross", INDEX, x -> x.uncross(b));
            wrong("setShares", INDEX, x -> x.setShares(b, true) ? 1 : 0);
            wrong("order", INDEX, x -> x.order(0, b, true, 100, 1, 1));
            wrong("now", INDEX, x -> x.now(0, b, true, 100, 1));
            wrong("stop", INDEX, x -> x.stop(0, b, true, 100, 1, 100));
            wrong("quote", INDEX, x -> x.quote(0, b, 100, 101, 1));
        }
        int[] noContracts = {-1, 3, Integer.MIN_VALUE, Integer.MAX_VALUE};
        for (int c : noContracts) {
            wrong("setBand of no contract", INDEX, x -> Setups.band(x, c, 100, 1));
            wrong("setMove of no contract", INDEX, x -> x.setMove(0, c, 1));
        }
        wrong("call in a CALL", STATE, x -> x.call(2));
        wrong("shut of a SHUT one", STATE, x -> x.shut(4));
        wrong("uncross of an OPEN one", STATE, x -> x.uncross(0));
        wrong("uncross of a SHUT one", STATE, x -> x.uncross(4));
        int[] wild = {Integer.MIN_VALUE, Integer.MAX_VALUE};
        for (int far : wild) {
            wrong("setBand, middle", ARGUMENT, x -> Setups.band(x, 0, far, 1));
            wrong("setBand, band", ARGUMENT, x -> Setups.band(x, 0, 100, far));
            wrong("setMove", ARGUMENT, x -> x.setMove(0, 0, far));
        }
        wrong("setBand, middle 0", ARGUMENT, x -> Setups.band(x, 0, 0, 1));
        wrong("setBand, middle 1000", ARGUMENT, x -> Setups.band(x, 0, 1000, 1));
        wrong("setBand, band -1", ARGUMENT, x -> Setups.band(x, 0, 500, -1));
        wrong("setBand, band 1000", ARGUMENT, x -> Setups.band(x, 0, 500, 1000));
        wrong("setMove 501", ARGUMENT, x -> x.setMove(2, 1, 501));
        wrong("setMove -501", ARGUMENT, x -> x.setMove(2, 1, -501));
        wrong("setMove of the scenario -1", INDEX, x -> x.setMove(-1, 0, 1));
        wrong("setMove of the scenario 6", INDEX, x -> x.setMove(6, 0, 1));
    }

    private static void ofMembers() {
        int[] noMembers = {-1, 6, Integer.MIN_VALUE, Integer.MAX_VALUE};
        for (int m : noMembers) {
            wrong("deposit", INDEX, x -> x.deposit(m, 1));
            wrong("setShare", INDEX, x -> x.setShare(m, 1));
            wrong("protect", INDEX, x -> x.protect(m, 1));
            wrong("order", INDEX, x -> x.order(m, 0, true, 100, 1, 1));
            wrong("now", INDEX, x -> x.now(m, 0, true, 100, 1));
            wrong("stop", INDEX, x -> x.stop(m, 0, true, 100, 1, 100));
            wrong("quote", INDEX, x -> x.quote(m, 0, 100, 101, 1));
            wrong("bid", INDEX, x -> x.bid(m, 1));
            wrong("fail", INDEX, x -> x.fail(m));
        }
        int[] far = {-1000001, 1000001, Integer.MIN_VALUE, Integer.MAX_VALUE};
        for (int amount : far) {
            wrong("deposit", ARGUMENT, x -> x.deposit(1, amount));
            wrong("setShare", ARGUMENT, x -> x.setShare(0, amount));
            wrong("setCapital", ARGUMENT, x -> x.setCapital(amount));
            wrong("protect", ARGUMENT, x -> x.protect(1, amount));
            wrong("bid", ARGUMENT, x -> x.bid(0, amount));
            wrong("bid, no earlier one", ARGUMENT, x -> x.bid(3, amount));
        }
        wrong("setShare -1", ARGUMENT, x -> x.setShare(0, -1));
        wrong("setCapital -1", ARGUMENT, x -> x.setCapital(-1));
        wrong("protect -1", ARGUMENT, x -> x.protect(1, -1));
        wrong("protect 1001", ARGUMENT, x -> x.protect(1, 1001));
        wrong("deposit of one who is OUT", STATE, x -> x.deposit(5, 1));
        wrong("deposit of one who is OUT, nothing", STATE, x -> x.deposit(5, 0));
        wrong("deposit to below the need", STATE, x -> x.deposit(1, -999990));
        wrong("setShare of one who is OUT", STATE, x -> x.setShare(5, 1));
        wrong("bid of one who is OUT", STATE, x -> x.bid(5, 1));
        wrong("fail of one who is OUT", STATE, x -> x.fail(5));
        wrong("fail of one with funds", STATE, x -> x.fail(0));
    }

    private static void ofOrders() {
        int[] noPrices = {0, 1000, Integer.MIN_VALUE, Integer.MAX_VALUE};
        int[] noSpreads = {-501, 501, Integer.MIN_VALUE, Integer.MAX_VALUE};
        for (int i = 0; i < 4; i++) {
            for (int b = 0; b < 4; b += 3) {
                int book = b, price = b == 0 ? noPrices[i] : noSpreads[i];
                wrong("order, price", ARGUMENT, x -> x.order(0, book, true, price, 1, 1));
                wrong("now, price", ARGUMENT, x -> x.now(0, book, false, price, 1));
                wrong("stop, price", ARGUMENT, x -> x.stop(0, book, true, price, 1, 100));
                wrong("stop, trigger", ARGUMENT, x -> x.stop(0, book, true, 100, 1, price));
                wrong("quote, bid", ARGUMENT, x -> x.quote(1, book, price, 500, 1));
                wrong("quote, ask", ARGUMENT, x -> x.quote(1, book, 1, price, 1));
            }
        }
        int[] noSizes = {0, -1, 101, Integer.MIN_VALUE, Integer.MAX_VALUE};
        for (int size : noSizes) {
            wrong("order, size", ARGUMENT, x -> x.order(0, 0, true, 100, size, 1));
            wrong("now, size", ARGUMENT, x -> x.now(0, 0, true, 100, size));
            wrong("stop, size", ARGUMENT, x -> x.stop(0, 0, true, 100, size, 100));
            wrong("quote, size", ARGUMENT, x -> x.quote(1, 0, 100, 101, size));
            wrong("order, peak", ARGUMENT, x -> x.order(0, 0, true, 100, 9, size == 101 ? 10 : size));
        }
        wrong("quote, ask at bid", ARGUMENT, x -> x.quote(1, 0, 100, 100, 1));
        wrong("quote, ask below bid", ARGUMENT, x -> x.quote(1, 0, 100, 99, 1));
        wrong("order, OUT", STATE, x -> x.order(5, 0, true, 100, 1, 1));
        wrong("now, OUT", STATE, x -> x.now(5, 0, true, 100, 1));
        wrong("stop, OUT", STATE, x -> x.stop(5, 0, true, 100, 1, 100));
        wrong("quote, OUT", STATE, x -> x.quote(5, 0, 100, 101, 1));
        wrong("order, SHUT", STATE, x -> x.order(0, 4, true, 100, 1, 1));
        wrong("now, SHUT", STATE, x -> x.now(0, 4, true, 100, 1));
        wrong("now, in a CALL", STATE, x -> x.now(0, 2, true, 100, 1));
        wrong("now, HALTED", STATE, x -> x.now(0, 1, true, 100, 1));
        wrong("stop, SHUT", STATE, x -> x.stop(0, 4, true, 100, 1, 100));
        wrong("quote, SHUT", STATE, x -> x.quote(0, 4, 100, 101, 1));
        wrong("cancel, DONE", STATE, x -> x.cancel(0));
        wrong("cancel, CANCELLED", STATE, x -> x.cancel(15));
    }

    private static void ofTrades() {
        int[] none = {-1, Integer.MIN_VALUE, Integer.MAX_VALUE};
        for (int k : none) {
            wrong("cancel", INDEX, x -> x.cancel(k));
            wrong("bust", INDEX, x -> x.bust(k));
            wrong("trade", INDEX, x -> x.trade(k, 0));
            wrong("trade, figure", ARGUMENT, x -> x.trade(0, k));
        }
        wrong("cancel, the next one", INDEX, x -> x.cancel(x.orders()));
        wrong("bust, the next one", INDEX, x -> x.bust(x.trades()));
        wrong("trade, the next one", INDEX, x -> x.trade(x.trades(), 0));
        wrong("trade, figure 6", ARGUMENT, x -> x.trade(0, 6));
        wrong("bust, busted", STATE, x -> x.bust(5));
        wrong("bust, the buyer is OUT", STATE, x -> x.bust(0));
        wrong("bust, the seller is OUT", STATE, x -> x.bust(2));
    }

    private static void ofQuestions() {
        int[] none = {-1, 6, Integer.MIN_VALUE, Integer.MAX_VALUE};
        for (int m : none) {
            // There is a sixth order, but no such book, contract or member.
            int order = m == 6 ? 19 : m;
            wrong("phase", INDEX, x -> x.phase(m == 6 ? 5 : m));
            wrong("state", INDEX, x -> x.state(order));
            wrong("left", INDEX, x -> x.left(order));
            wrong("shows", INDEX, x -> x.shows(order));
            wrong("best", INDEX, x -> x.best(m == 6 ? 5 : m, true));
            wrong("bestByAll", INDEX, x -> x.bestByAll(m == 6 ? 5 : m, true));
            wrong("way", INDEX, x -> x.way(m == 6 ? 5 : m, true));
            wrong("wayPrice", INDEX, x -> x.wayPrice(m == 6 ? 5 : m, true));
            wrong("auction", INDEX, x -> x.auction(m == 6 ? 5 : m));
            wrong("mark", INDEX, x -> x.mark(m == 6 ? 3 : m));
            wrong("middle", INDEX, x -> x.middle(m == 6 ? 3 : m));
            wrong("position", INDEX, x -> x.position(m, 0));
            wrong("position, contract", INDEX, x -> x.position(0, m == 6 ? 3 : m));
            wrong("positionByTrades", INDEX, x -> x.positionByTrades(m, 0));
            wrong("positionByTrades, contract", INDEX, x -> x.positionByTrades(0, m == 6 ? 3 : m));
            wrong("cash", INDEX, x -> x.cash(m));
            wrong("funds", INDEX, x -> x.funds(m));
            wrong("margin", INDEX, x -> x.margin(m));
            wrong("need", INDEX, x -> x.need(m));
            wrong("share", INDEX, x -> x.share(m));
            wrong("isOut", INDEX, x -> x.isOut(m) ? 1 : 0);
        }
    }

    private static void several() {
        Sentences.says("If several apply, the one that is named first in the throws clause is thrown.", () -> {
            BookExchange x = Setups.rich();
            throwsIt("setBand, contract and middle", INDEX, () -> Setups.band(x, 3, 0, 1));
            throwsIt("setBand, contract and band", INDEX, () -> Setups.band(x, 3, 1, -1));
            throwsIt("deposit, member and amount", INDEX, () -> x.deposit(6, 1000001));
            throwsIt("deposit, amount and OUT", ARGUMENT, () -> x.deposit(5, 1000001));
            throwsIt("deposit, amount and less than nothing", ARGUMENT, () -> x.deposit(0, -1000001));
            throwsIt("setShare, member and share", INDEX, () -> x.setShare(6, -1));
            throwsIt("setShare, share and OUT", ARGUMENT, () -> x.setShare(5, -1));
            throwsIt("protect, member and most", INDEX, () -> x.protect(6, -1));
            throwsIt("setMove, scenario and move", INDEX, () -> x.setMove(6, 0, 501));
            throwsIt("setMove, contract and move", INDEX, () -> x.setMove(0, 3, 501));
            throwsIt("bid, member and amount", INDEX, () -> x.bid(6, 1000001));
            throwsIt("bid, amount and OUT", ARGUMENT, () -> x.bid(5, 1000001));
            throwsIt("trade, trade and figure", INDEX, () -> x.trade(x.trades(), 6));
            int[] outs = {0, 5};
            for (int m : outs) {
                int book = m == 5 ? 0 : 4;
                throwsIt("order, member, price and SHUT", INDEX, () -> x.order(6, 4, true, 501, 1, 1));
                throwsIt("order, book and price", INDEX, () -> x.order(m, 5, true, 1000, 1, 1));
                throwsIt("order, price and state", ARGUMENT, () -> x.order(m, book, true, 1000, 1, 1));
                throwsIt("order, size and state", ARGUMENT, () -> x.order(m, book, true, 100, 101, 1));
                throwsIt("order, peak and state", ARGUMENT, () -> x.order(m, book, true, 100, 9, 10));
                throwsIt("now, book and size", INDEX, () -> x.now(m, 5, true, 100, 0));
                throwsIt("now, price and state", ARGUMENT, () -> x.now(m, book, true, 1000, 1));
                throwsIt("now, size and state", ARGUMENT, () -> x.now(m, book, true, 100, 0));
                throwsIt("stop, book and trigger", INDEX, () -> x.stop(m, -1, true, 100, 1, 1000));
                throwsIt("stop, price and state", ARGUMENT, () -> x.stop(m, book, true, 1000, 1, 1));
                throwsIt("stop, size and state", ARGUMENT, () -> x.stop(m, book, true, 100, 0, 1));
                throwsIt("stop, trigger and state", ARGUMENT, () -> x.stop(m, book, true, 100, 1, 1000));
                throwsIt("quote, book and size", INDEX, () -> x.quote(m, 5, 100, 101, 0));
                throwsIt("quote, bid and state", ARGUMENT, () -> x.quote(m, book, -501, 101, 1));
                throwsIt("quote, ask and state", ARGUMENT, () -> x.quote(m, book, 100, 1000, 1));
                throwsIt("quote, ask at bid and state", ARGUMENT, () -> x.quote(m, book, 100, 100, 1));
                throwsIt("quote, size and state", ARGUMENT, () -> x.quote(m, book, 100, 101, 0));
            }
            BookExchange full = Setups.open();
            for (int i = 0; i < 200; i++) {
                full.order(0, 0, true, 1, 1, 1);
            }
            throwsIt("order, member and 200 orders", INDEX, () -> full.order(6, 0, true, 1, 1, 1));
            throwsIt("order, peak and 200 orders", ARGUMENT, () -> full.order(0, 0, true, 1, 1, 2));
            throwsIt("now, size and 200 orders", ARGUMENT, () -> full.now(0, 0, true, 1, 101));
            throwsIt("stop, trigger and 200 orders", ARGUMENT, () -> full.stop(0, 0, true, 1, 1, 0));
            throwsIt("quote, ask and 200 orders", ARGUMENT, () -> full.quote(0, 0, 1, 1, 1));
        });
    }
}
