import java.util.ArrayList;
import java.util.List;
import java.util.Random;

/** Runs of calls, drawn from fixed seeds, on the program and on Model: both must answer the same, always. */
public final class ModelTest {
    private final Random random;
    private final BookExchange x = new BookExchange();
    private final Model y = new Model();
    private final List<String> told = new ArrayList<>();
    private final int profile;
    private boolean isWrong;

    private ModelTest(long seed) {
        random = new Random(seed);
        profile = (int) (seed % 8);
    }

    private static final int RUNS = 400;
    // A run proves nothing of what never happens in it; fewer than RUNS may lack some of these.
    private static final String[] RARE = {
        "auction of a contract", "auction of a spread", "auction without a trade", "bid too low", "bids unlike", "default",
        "halt of 0 by way 0.2", "halt of 1 by way 0.2", "halt of 2 by way 0.2", "halt of 1 by way 2.2",
        "halt of 0 by way 3.1", "halt of a book in 3", "loss", "loss in the shares of others", "loss uncovered",
        "no more matching", "one more by shares", "one more of the shares", "one more torn up", "order refused",
        "quote refused", "quotes pulled", "shows anew", "take-over", "tear-up", "trade by way 3.0 by shares",
        "trigger in a book that is 2", "trigger in a book that is 3"
    };

    public static void main(String[] args) {
        int runs = args.length > 0 ? Integer.parseInt(args[0]) : RUNS;
        int first = args.length > 1 ? Integer.parseInt(args[1]) : 0;
        for (int seed = first; seed < first + runs; seed++) {
            ModelTest run = new ModelTest(seed);
            run.go();
            if (run.isWrong) {
                System.out.println("seed " + seed + ", after:");
                for (String call : run.told) {
                    System.out.println("  " + call);
                }
                break;
            }
        }
        if (args.length > 2) {
            Model.HAPPENED.forEach((what, count) -> System.out.println(count + " " + what));
        }
        for (String what : runs >= RUNS ? RARE : new String[0]) {
            Checks.due("how often there was: " + what + ", being more than 3", Model.HAPPENED.getOrDefault(what, 0) > 3, true);
        }
        Checks.end("ModelTest");
    }

    private int upTo(int most) {
        return random.nextInt(most + 1);
    }

    private boolean oneIn(int n) {
        return random.nextInt(n) == 0;
    }

    private void same(String what, Checks.Call one, Checks.Call other) {
        long due = Checks.of(other);
        Checks.due(what, Checks.of(one), due);
        if (told.isEmpty() || !told.get(told.size() - 1).equals(what)) {
            told.add(what + " -> " + Checks.named(due));
        }
        isWrong = Checks.isWrong();
    }

    private void go() {
        begin();
        int calls = profile == 7 ? 300 : 200;
        for (int i = 0; i < calls && !isWrong; i++) {
            act();
            if (profile == 5 && i % 25 == 24) {
                fallAndFail();
            }
            if (!isWrong) {
                compare(i % 8 == 7 || i == calls - 1);
            }
        }
    }

    private void begin() {
        for (int m = 0; m < 6; m++) {
            int member = m;
            int amount = profile == 5 || profile == 6 ? upTo(400) : 1000000;
            int share = upTo(60);
            same("deposit(" + member + ", " + amount + ")", () -> x.deposit(member, amount), () -> y.deposit(member, amount));
            same("setShare(" + member + ", " + share + ")", () -> x.setShare(member, share), () -> y.setShare(member, share));
        }
        for (int b = 0; b < 5; b++) {
            int book = b;
            if (!oneIn(8)) {
                same("call(" + book + ")", () -> x.call(book), () -> y.call(book));
                if (!oneIn(4)) {
                    same("uncross(" + book + ")", () -> x.uncross(book), () -> y.uncross(book));
                }
            }
            if (profile == 1 || oneIn(3)) {
                same("setShares(" + book + ", true)", () -> x.setShares(book, true) ? 1 : 0, () -> y.setShares(book, true) ? 1 : 0);
            }
        }
        if (profile == 6) {
            for (int i = 0; i < 4; i++) {
                setMove();
            }
        }
    }

    // Now and then an argument is out of its range.
    private int member() {
        return oneIn(150) ? (oneIn(2) ? -1 : 6) : upTo(5);
    }

    private int book() {
        return oneIn(150) ? (oneIn(2) ? -1 : 5) : oneIn(3) ? upTo(4) : profile == 2 ? upTo(4) : profile == 3 ? 3 + upTo(1) : upTo(2);
    }

    private int price(int book) {
        if (oneIn(100)) {
            int[] edges = {-501, -500, 500, 501, 0, 1, 999, 1000};
            return edges[upTo(7)];
        }
        int spread = profile == 4 ? 60 : profile == 0 ? 2 : 6;
        return book <= 2 ? 100 + upTo(2 * spread) - spread : upTo(2 * spread) - spread;
    }

    private int size() {
        return oneIn(100) ? (oneIn(2) ? 0 : 101) : profile == 7 ? 100 : oneIn(4) ? 1 + upTo(99) : 1 + upTo(11);
    }

    private int peak(int size) {
        return oneIn(100) ? size + 1 - upTo(1) * (size + 1) : profile == 7 ? 1 + upTo(1) : oneIn(2) ? size : 1 + upTo(Math.max(0, size - 1));
    }

    private void act() {
        int kind = upTo(99);
        if (kind < 34) {
            order();
        } else if (kind < 46) {
            now();
        } else if (kind < 55) {
            stop();
        } else if (kind < 65) {
            quote();
        } else if (kind < 69) {
            int o = upTo(Math.max(1, y.orders() + 1)) - 1;
            same("cancel(" + o + ")", () -> x.cancel(o), () -> y.cancel(o));
        } else if (kind < 73) {
            int t = upTo(Math.max(1, y.trades() + 1)) - 1;
            same("bust(" + t + ")", () -> x.bust(t), () -> y.bust(t));
        } else if (kind < 77) {
            actOnBook();
        } else if (kind < 83) {
            uncrossOne();
        } else if (kind < 86) {
            setBand();
        } else if (kind < 89) {
            actOnMember();
        } else if (kind < 92) {
            setMove();
        } else if (kind < 96) {
            int m = member();
            int amount = oneIn(20) ? 1000001 - upTo(1) * 2000002 : upTo(400) - 200;
            same("bid(" + m + ", " + amount + ")", () -> x.bid(m, amount), () -> y.bid(m, amount));
        } else {
            for (int i = 0; i < 6; i++) {
                int m = i;
                if (oneIn(2)) {
                    same("fail(" + m + ")", () -> x.fail(m), () -> y.fail(m));
                }
            }
        }
    }

    /** Lets a scenario be hard for a while, so that members come to default. */
    private void fallAndFail() {
        int s = upTo(5), c = upTo(2), move = upTo(1000) - 500;
        for (int m = 0; m < 6; m++) {
            int member = m;
            int amount = upTo(30) * 10;
            if (oneIn(3)) {
                same("bid(" + m + ", " + amount + ")", () -> x.bid(member, amount), () -> y.bid(member, amount));
            }
        }
        same("setMove(" + s + ", " + c + ", " + move + ")", () -> x.setMove(s, c, move), () -> y.setMove(s, c, move));
        int failed = upTo(5);
        for (int k = 0; k < 6; k++) {
            int m = (failed + k) % 6;
            if (y.funds(m) < y.margin(m) && !y.isOut(m) && oneIn(2)) {
                same("fail(" + m + ")", () -> x.fail(m), () -> y.fail(m));
                break;
            }
        }
        same("setMove(" + s + ", " + c + ", 0)", () -> x.setMove(s, c, 0), () -> y.setMove(s, c, 0));
    }

    private void order() {
        int m = member(), b = book(), price = price(b), size = size(), peak = peak(size);
        boolean isBuy = oneIn(2);
        same("order(" + m + ", " + b + ", " + isBuy + ", " + price + ", " + size + ", " + peak + ")",
            () -> x.order(m, b, isBuy, price, size, peak), () -> y.order(m, b, isBuy, price, size, peak));
    }

    private void now() {
        int m = member(), b = book(), price = price(b), size = size();
        boolean isBuy = oneIn(2);
        same("now(" + m + ", " + b + ", " + isBuy + ", " + price + ", " + size + ")",
            () -> x.now(m, b, isBuy, price, size), () -> y.now(m, b, isBuy, price, size));
    }

    private void stop() {
        int m = member(), b = book(), price = price(b), size = size(), trigger = price(b);
        boolean isBuy = oneIn(2);
        same("stop(" + m + ", " + b + ", " + isBuy + ", " + price + ", " + size + ", " + trigger + ")",
            () -> x.stop(m, b, isBuy, price, size, trigger), () -> y.stop(m, b, isBuy, price, size, trigger));
    }

    private void quote() {
        int m = member(), b = book(), bid = price(b), ask = oneIn(30) ? bid : bid + 1 + upTo(4), size = size();
        same("quote(" + m + ", " + b + ", " + bid + ", " + ask + ", " + size + ")",
            () -> x.quote(m, b, bid, ask, size), () -> y.quote(m, b, bid, ask, size));
    }

    private void actOnBook() {
        int b = book();
        boolean is = oneIn(2);
        if (oneIn(2)) {
            same("setShares(" + b + ", " + is + ")", () -> x.setShares(b, is) ? 1 : 0, () -> y.setShares(b, is) ? 1 : 0);
        } else if (oneIn(3)) {
            same("shut(" + b + ")", () -> x.shut(b), () -> y.shut(b));
        } else {
            same("call(" + b + ")", () -> x.call(b), () -> y.call(b));
        }
    }

    private void uncrossOne() {
        int b = book();
        for (int k = 0; k < 5; k++) {
            int shut = k;
            if (y.phase[k] == BookExchange.SHUT && oneIn(2)) {
                same("call(" + shut + ")", () -> x.call(shut), () -> y.call(shut));
            }
            if (y.phase[k] != BookExchange.OPEN && oneIn(2)) {
                b = k;
            }
        }
        int book = b;
        same("uncross(" + book + ")", () -> x.uncross(book), () -> y.uncross(book));
    }

    private void setBand() {
        int c = oneIn(50) ? 3 : upTo(2);
        int m = oneIn(50) ? upTo(1) * 1000 : y.middle[Math.min(c, 2)];
        int band = oneIn(50) ? upTo(1) * 1001 - 1 : oneIn(2) ? upTo(8) : 999;
        same("setBand(" + c + ", " + m + ", " + band + ")",
            () -> { x.setBand(c, m, band); return 0; }, () -> { y.setBand(c, m, band); return 0; });
    }

    private void actOnMember() {
        int m = member();
        int amount = oneIn(20) ? 1000001 - upTo(1) * 2000002 : upTo(400) - 200;
        int most = oneIn(20) ? upTo(1) * 1002 - 1 : upTo(20);
        int money = oneIn(20) ? upTo(1) * 1000002 - 1 : upTo(300);
        switch (upTo(3)) {
            case 0:
                same("deposit(" + m + ", " + amount + ")", () -> x.deposit(m, amount), () -> y.deposit(m, amount));
                break;
            case 1:
                same("setShare(" + m + ", " + money + ")", () -> x.setShare(m, money), () -> y.setShare(m, money));
                break;
            case 2:
                same("setCapital(" + money + ")", () -> x.setCapital(money), () -> y.setCapital(money));
                break;
            default:
                same("protect(" + m + ", " + most + ")", () -> x.protect(m, most), () -> y.protect(m, most));
        }
    }

    private void setMove() {
        int s = oneIn(60) ? 6 : upTo(5), c = oneIn(60) ? -1 : upTo(2);
        int most = profile == 6 ? 120 : 20;
        int move = oneIn(40) ? 501 - upTo(1) * 1002 : profile < 5 && oneIn(2) ? 0 : upTo(2 * most) - most;
        same("setMove(" + s + ", " + c + ", " + move + ")", () -> x.setMove(s, c, move), () -> y.setMove(s, c, move));
    }

    private void compare(boolean isWhole) {
        for (int i = 0; i < 5; i++) {
            int b = i;
            Checks.due("phase(" + b + ")", x.phase(b), y.phase(b));
            for (int s = 0; s < 2; s++) {
                boolean isBuy = s == 0;
                int best = y.best(b, isBuy);
                Checks.due("best(" + b + ", " + isBuy + ")", x.best(b, isBuy), best);
                Checks.due("bestByAll(" + b + ", " + isBuy + ")", x.bestByAll(b, isBuy), best);
                Checks.due("way(" + b + ", " + isBuy + ")", x.way(b, isBuy), y.way(b, isBuy));
                Checks.due("wayPrice(" + b + ", " + isBuy + ")", x.wayPrice(b, isBuy), y.wayPrice(b, isBuy));
            }
        }
        for (int c = 0; c < 3; c++) {
            Checks.due("mark(" + c + ")", x.mark(c), y.mark(c));
            Checks.due("middle(" + c + ")", x.middle(c), y.middle(c));
        }
        Checks.due("trades()", x.trades(), y.trades());
        Checks.due("orders()", x.orders(), y.orders());
        Checks.due("capital()", x.capital(), y.capital());
        Checks.due("uncovered()", x.uncovered(), y.uncovered());
        if (isWhole && !Checks.isWrong()) {
            compareAll();
        }
        isWrong = Checks.isWrong();
    }

    private void compareAll() {
        for (int b = 0; b < 5; b++) {
            Checks.due("auction(" + b + ")", x.auction(b), y.auction(b));
        }
        for (int o = 0; o < y.orders(); o++) {
            Checks.due("state(" + o + ")", x.state(o), y.state(o));
            Checks.due("left(" + o + ")", x.left(o), y.left(o));
            Checks.due("shows(" + o + ")", x.shows(o), y.shows(o));
        }
        for (int m = 0; m < 6; m++) {
            for (int c = 0; c < 3; c++) {
                Checks.due("position(" + m + ", " + c + ")", x.position(m, c), y.position(m, c));
                Checks.due("positionByTrades(" + m + ", " + c + ")", x.positionByTrades(m, c), y.position(m, c));
            }
            Checks.due("cash(" + m + ")", x.cash(m), y.cash(m));
            Checks.due("funds(" + m + ")", x.funds(m), y.funds(m));
            Checks.due("margin(" + m + ")", x.margin(m), y.margin(m));
            Checks.due("need(" + m + ")", x.need(m), y.need(m));
            Checks.due("share(" + m + ")", x.share(m), y.share(m));
            Checks.due("isOut(" + m + ")", x.isOut(m), y.isOut(m));
        }
        for (int t = 0; t < y.trades(); t++) {
            for (int f = 0; f < 6; f++) {
                Checks.due("trade(" + t + ", " + f + ")", x.trade(t, f), y.trade(t, f));
            }
        }
    }
}
