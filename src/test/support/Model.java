import java.util.ArrayList;
import java.util.List;
import java.util.TreeMap;

/**
 * The document read a second time, word for word and without any care for speed: nothing is kept that can be
 * found by going through all orders or trades. ModelTest compares the program with it.
 */
public final class Model {
    static final int NONE = -1, NO_PRICE = -10000;
    static final int SHUT = 0, CALL = 1, OPEN = 2, HALTED = 3;
    static final int WAITING = 0, RESTING = 1, DONE = 2, CANCELLED = 3, ON_ITS_WAY = 9;

    static final class Ord {
        int number, member, book, price, size, left, peak, shows, stamp, trigger, state;
        boolean isBuy, isNow, isQuote, isReached;
    }

    static final class Deal {
        int contract, buyer, seller, price, size;
        boolean isBusted;
    }

    final int[] phase = new int[5];
    final boolean[] shares = new boolean[5];
    final int[] mark = {100, 100, 100}, middle = {100, 100, 100}, band = {999, 999, 999};
    final int[] collateral = new int[6], otherCash = new int[6], share = new int[6], protection = new int[6];
    final boolean[] out = new boolean[6];
    final Integer[] bids = new Integer[6];
    final int[][] moves = new int[6][3];
    final List<Ord> orders = new ArrayList<>();
    final List<Deal> deals = new ArrayList<>();
    final int[][] quoteBuy = new int[6][5], quoteSell = new int[6][5];
    final int[] callTraded = new int[6];
    int capital, uncovered, clock;

    /** How often things happened, as runs prove nothing of what never happens in them. */
    static final TreeMap<String, Integer> HAPPENED = new TreeMap<>();

    static void happens(String what) {
        HAPPENED.merge(what, 1, Integer::sum);
    }

    Model() {
        for (int m = 0; m < 6; m++) {
            for (int b = 0; b < 5; b++) {
                quoteBuy[m][b] = NONE;
                quoteSell[m][b] = NONE;
            }
        }
    }

    // ---- checks

    static void noSuch(boolean isWrong) {
        if (isWrong) throw new IndexOutOfBoundsException();
    }

    static void outOfRange(boolean isWrong) {
        if (isWrong) throw new IllegalArgumentException();
    }

    static void illegal(boolean isWrong) {
        if (isWrong) throw new IllegalStateException();
    }

    static boolean noMember(int m) { return m < 0 || m > 5; }
    static boolean noBook(int b) { return b < 0 || b > 4; }
    static boolean noContract(int c) { return c < 0 || c > 2; }
    static boolean noPrice(int b, int p) { return b <= 2 ? p < 1 || p > 999 : p < -500 || p > 500; }
    boolean noOrder(int o) { return o < 0 || o >= orders.size(); }
    boolean noDeal(int t) { return t < 0 || t >= deals.size(); }

    // ---- books

    int call(int b) {
        noSuch(noBook(b));
        illegal(phase[b] == CALL);
        int was = phase[b];
        phase[b] = CALL;
        return was;
    }

    int shut(int b) {
        noSuch(noBook(b));
        illegal(phase[b] == SHUT);
        int was = phase[b];
        phase[b] = SHUT;
        return was;
    }

    boolean setShares(int b, boolean is) {
        noSuch(noBook(b));
        boolean was = shares[b];
        shares[b] = is;
        return was;
    }

    void setBand(int c, int m, int d) {
        noSuch(noContract(c));
        outOfRange(m < 1 || m > 999 || d < 0 || d > 999);
        middle[c] = m;
        band[c] = d;
    }

    int[] auctionAt(int b, int price) {
        int buys = 0, sells = 0;
        for (Ord o : orders) {
            if (o.state == RESTING && o.book == b) {
                if (o.isBuy && o.price >= price) buys += o.left;
                if (!o.isBuy && o.price <= price) sells += o.left;
            }
        }
        return new int[] {Math.min(buys, sells), Math.abs(buys - sells)};
    }

    int auction(int b) {
        noSuch(noBook(b));
        int best = NO_PRICE;
        for (int price = -500; price <= 999; price++) {
            boolean isThere = false;
            for (Ord o : orders) isThere |= o.state == RESTING && o.book == b && o.price == price;
            if (!isThere || auctionAt(b, price)[0] == 0) continue;
            if (best == NO_PRICE) {
                best = price;
                continue;
            }
            int[] x = auctionAt(b, price), y = auctionAt(b, best);
            int to = b <= 2 ? mark[b] : 0;
            int nearX = Math.abs(price - to), nearY = Math.abs(best - to);
            if (x[0] != y[0] ? x[0] > y[0] : x[1] != y[1] ? x[1] < y[1] : nearX < nearY) best = price;
        }
        return best;
    }

    int uncross(int b) {
        noSuch(noBook(b));
        illegal(phase[b] != CALL && phase[b] != HALTED);
        java.util.Arrays.fill(callTraded, 0);
        int price = auction(b);
        int size = price == NO_PRICE ? 0 : auctionAt(b, price)[0];
        happens(size == 0 ? "auction without a trade" : b <= 2 ? "auction of a contract" : "auction of a spread");
        int traded = 0;
        while (traded < size) {
            Ord buy = orders.get(bestByAll(b, true)), sell = orders.get(bestByAll(b, false));
            int now = Math.min(buy.left, sell.left);
            if (b <= 2) {
                deal(b, buy.member, sell.member, price, now, true);
            } else {
                int second = b - 2;
                deal(second, sell.member, buy.member, mark[second], now, false);
                deal(b - 3, buy.member, sell.member, mark[second] + price, now, false);
            }
            takeLeft(buy, now);
            takeLeft(sell, now);
            traded += now;
        }
        for (Ord o : orders) {
            if (o.state == RESTING && o.book == b) o.shows = Math.min(o.peak, o.left);
        }
        phase[b] = OPEN;
        if (size > 0) {
            bookTrades(b, price);
            if (b <= 2) middle[b] = price;
        }
        afterwards();
        return size;
    }

    // ---- members

    int deposit(int m, int amount) {
        noSuch(noMember(m));
        outOfRange(amount < -1000000 || amount > 1000000);
        illegal(out[m]);
        int then = collateral[m] + amount;
        illegal(then < 0 || then > 100000000);
        illegal(amount < 0 && need(m) > funds(m) + amount);
        collateral[m] = then;
        return then;
    }

    int setShare(int m, int s) {
        noSuch(noMember(m));
        outOfRange(s < 0 || s > 1000000);
        illegal(out[m]);
        int was = share[m];
        share[m] = s;
        return was;
    }

    int setCapital(int c) {
        outOfRange(c < 0 || c > 1000000);
        int was = capital;
        capital = c;
        return was;
    }

    int protect(int m, int most) {
        noSuch(noMember(m));
        outOfRange(most < 0 || most > 1000);
        int was = protection[m];
        protection[m] = most;
        return was;
    }

    int setMove(int s, int c, int move) {
        noSuch(s < 0 || s > 5 || noContract(c));
        outOfRange(move < -500 || move > 500);
        int was = moves[s][c];
        moves[s][c] = move;
        return was;
    }

    // ---- orders

    Ord make(int m, int b, boolean isBuy, int price, int size, int peak) {
        Ord o = new Ord();
        o.number = orders.size();
        o.member = m;
        o.book = b;
        o.isBuy = isBuy;
        o.price = price;
        o.size = size;
        o.left = size;
        o.peak = peak;
        return o;
    }

    int order(int m, int b, boolean isBuy, int price, int size, int peak) {
        noSuch(noMember(m) || noBook(b));
        outOfRange(noPrice(b, price) || size < 1 || size > 100 || peak < 1 || peak > size);
        illegal(out[m] || phase[b] == SHUT || orders.size() >= 200);
        Ord o = make(m, b, isBuy, price, size, peak);
        if (isAbove(m, NONE, o)) {
            happens("order refused");
            return NONE;
        }
        java.util.Arrays.fill(callTraded, 0);
        orders.add(o);
        comes(o);
        afterwards();
        return o.number;
    }

    int now(int m, int b, boolean isBuy, int price, int size) {
        noSuch(noMember(m) || noBook(b));
        outOfRange(noPrice(b, price) || size < 1 || size > 100);
        illegal(out[m] || phase[b] != OPEN || orders.size() >= 200);
        Ord o = make(m, b, isBuy, price, size, size);
        o.isNow = true;
        if (isAbove(m, NONE, o)) {
            happens("order refused");
            return NONE;
        }
        java.util.Arrays.fill(callTraded, 0);
        orders.add(o);
        comes(o);
        afterwards();
        return o.number;
    }

    int stop(int m, int b, boolean isBuy, int price, int size, int trigger) {
        noSuch(noMember(m) || noBook(b));
        outOfRange(noPrice(b, price) || size < 1 || size > 100 || noPrice(b, trigger));
        illegal(out[m] || phase[b] == SHUT || orders.size() >= 200);
        Ord o = make(m, b, isBuy, price, size, size);
        o.trigger = trigger;
        if (isAbove(m, NONE, o)) {
            happens("order refused");
            return NONE;
        }
        orders.add(o);
        o.state = WAITING;
        return o.number;
    }

    int quote(int m, int b, int bid, int ask, int size) {
        noSuch(noMember(m) || noBook(b));
        outOfRange(noPrice(b, bid) || noPrice(b, ask) || ask <= bid || size < 1 || size > 100);
        illegal(out[m] || phase[b] == SHUT || orders.size() > 198);
        Ord buy = make(m, b, true, bid, size, size), sell = make(m, b, false, ask, size, size);
        if (isAbove(m, b, buy, sell)) {
            happens("quote refused");
            return NONE;
        }
        java.util.Arrays.fill(callTraded, 0);
        cancelQuote(m, b);
        buy.isQuote = true;
        orders.add(buy);
        quoteBuy[m][b] = buy.number;
        comes(buy);
        afterwards();
        sell.isQuote = true;
        sell.number = orders.size();
        orders.add(sell);
        quoteSell[m][b] = sell.number;
        comes(sell);
        afterwards();
        return buy.number;
    }

    void cancelQuote(int m, int b) {
        int[] both = {quoteBuy[m][b], quoteSell[m][b]};
        for (int o : both) {
            if (o != NONE && orders.get(o).state == RESTING) orders.get(o).state = CANCELLED;
        }
        quoteBuy[m][b] = NONE;
        quoteSell[m][b] = NONE;
    }

    int cancel(int o) {
        noSuch(noOrder(o));
        Ord x = orders.get(o);
        illegal(x.state != WAITING && x.state != RESTING);
        x.state = CANCELLED;
        return x.left;
    }

    void comes(Ord o) {
        o.state = ON_ITS_WAY;
        if (phase[o.book] == OPEN) matched(o);
        if (o.left > 0 && deals.size() >= 1500) happens("no more matching");
        if (o.left == 0) o.state = DONE;
        else if (o.isNow) o.state = CANCELLED;
        else rests(o);
    }

    void rests(Ord o) {
        o.state = RESTING;
        o.stamp = ++clock;
        o.shows = Math.min(o.peak, o.left);
    }

    void afterwards() {
        while (true) {
            for (int m = 0; m < 6; m++) {
                if (protection[m] > 0 && callTraded[m] > protection[m]) {
                    happens("quotes pulled");
                    for (int b = 0; b < 5; b++) {
                        for (int o : new int[] {quoteBuy[m][b], quoteSell[m][b]}) {
                            if (o != NONE && orders.get(o).state == RESTING) orders.get(o).state = CANCELLED;
                        }
                    }
                }
            }
            Ord next = null;
            for (Ord o : orders) {
                if (next == null && o.state == WAITING && o.isReached) next = o;
            }
            if (next == null) return;
            happens("trigger in a book that is " + phase[next.book]);
            comes(next);
        }
    }

    void bookTrades(int b, int price) {
        for (Ord o : orders) {
            if (o.state == WAITING && o.book == b && (o.isBuy ? price >= o.trigger : price <= o.trigger)) {
                o.isReached = true;
            }
        }
    }

    void takeLeft(Ord o, int size) {
        o.left -= size;
        if (o.isQuote) callTraded[o.member] += size;
        if (o.left == 0) o.state = DONE;
    }

    void takeResting(Ord o, int size) {
        takeLeft(o, size);
        o.shows -= size;
        if (o.shows == 0 && o.left > 0) {
            happens("shows anew");
            rests(o);
        }
    }

    void deal(int contract, int buyer, int seller, int price, int size, boolean marks) {
        Deal d = new Deal();
        d.contract = contract;
        d.buyer = buyer;
        d.seller = seller;
        d.price = price;
        d.size = size;
        deals.add(d);
        if (marks) mark[contract] = price;
    }

    // ---- ways: what each way takes, written out; the sides as for one that comes to buy

    /** The books of a way, each with 1 for W (the selling side, to buy) or -1 for B. */
    static int[][] legs(int b, int way) {
        switch (b * 10 + way) {
            case 0: return new int[][] {{0, 1}};
            case 1: return new int[][] {{3, 1}, {1, 1}};
            case 2: return new int[][] {{3, 1}, {4, 1}, {2, 1}};
            case 10: return new int[][] {{1, 1}};
            case 11: return new int[][] {{4, 1}, {2, 1}};
            case 12: return new int[][] {{3, -1}, {0, 1}};
            case 20: return new int[][] {{2, 1}};
            case 21: return new int[][] {{4, -1}, {1, 1}};
            case 22: return new int[][] {{4, -1}, {3, -1}, {0, 1}};
            case 30: return new int[][] {{3, 1}};
            case 31: return new int[][] {{0, 1}, {1, -1}};
            case 40: return new int[][] {{4, 1}};
            case 41: return new int[][] {{1, 1}, {2, -1}};
            default: return null;
        }
    }

    List<Ord> takenBy(int b, int way, boolean isBuy) {
        int[][] legs = legs(b, way);
        if (legs == null) return null;
        List<Ord> found = new ArrayList<>();
        for (int[] leg : legs) {
            boolean takesBuys = (leg[1] == 1) != isBuy;
            int best = bestByAll(leg[0], takesBuys);
            if (phase[leg[0]] != OPEN || best == NONE) return null;
            found.add(orders.get(best));
        }
        return found;
    }

    int priceBy(int b, int way, boolean isBuy) {
        List<Ord> taken = takenBy(b, way, isBuy);
        if (taken == null) return NO_PRICE;
        int price = 0;
        for (int i = 0; i < taken.size(); i++) price += legs(b, way)[i][1] * taken.get(i).price;
        return price;
    }

    int way(int b, boolean isBuy) {
        noSuch(noBook(b));
        int best = NONE;
        for (int w = 0; w < 3; w++) {
            int price = priceBy(b, w, isBuy);
            if (price == NO_PRICE) continue;
            if (best == NONE) best = w;
            else if (isBuy ? price < priceBy(b, best, true) : price > priceBy(b, best, false)) best = w;
        }
        return best;
    }

    int wayPrice(int b, boolean isBuy) {
        int w = way(b, isBuy);
        return w == NONE ? NO_PRICE : priceBy(b, w, isBuy);
    }

    void matched(Ord o) {
        while (o.left > 0 && deals.size() < 1500) {
            int w = way(o.book, o.isBuy);
            if (w == NONE) return;
            int price = priceBy(o.book, w, o.isBuy);
            if (o.isBuy ? price > o.price : price < o.price) return;
            List<Ord> taken = takenBy(o.book, w, o.isBuy);
            if (w == 0 && shares[o.book]) {
                taken.clear();
                for (Ord x : orders) {
                    if (x.state == RESTING && x.book == o.book && x.isBuy != o.isBuy && x.price == price) taken.add(x);
                }
                taken.sort((x, y) -> Integer.compare(x.stamp, y.stamp));
            }
            boolean isOwn = false;
            for (Ord x : taken) {
                if (x.member == o.member) {
                    x.state = CANCELLED;
                    isOwn = true;
                }
            }
            if (isOwn) {
                happens("own orders taken by way " + o.book + "." + w);
                continue;
            }
            int[] prices = pricesOf(o.book, w, price, taken);
            int far = NONE;
            for (int c = 2; c >= 0; c--) {
                if (prices[c] != NO_PRICE && Math.abs(prices[c] - middle[c]) > band[c]) far = c;
            }
            if (far != NONE) {
                boolean isTaken = false;
                for (Ord x : taken) isTaken |= x.book == far;
                happens("halt of " + far + " by way " + o.book + "." + w);
                if (phase[far] != OPEN) happens("halt of a book in " + phase[far]);
                phase[far] = HALTED;
                if (far == o.book || !isTaken) return;
                continue;
            }
            happens("trade by way " + o.book + "." + w + (w == 0 && shares[o.book] ? " by shares" : ""));
            if (w == 0) tradeDirect(o, price, taken);
            else tradeImplied(o, w, price, taken, prices);
        }
    }

    /** The price of each contract that a step would trade; none for the way 0 of a spread. */
    static int[] pricesOf(int b, int way, int price, List<Ord> taken) {
        int[] p = {NO_PRICE, NO_PRICE, NO_PRICE};
        switch (b * 10 + way) {
            case 0: case 10: case 20:
                p[b] = price;
                break;
            case 1:
                p[0] = price;
                p[1] = p[0] - taken.get(0).price;
                break;
            case 2:
                p[0] = price;
                p[1] = p[0] - taken.get(0).price;
                p[2] = p[1] - taken.get(1).price;
                break;
            case 11:
                p[1] = price;
                p[2] = p[1] - taken.get(0).price;
                break;
            case 12:
                p[1] = price;
                p[0] = p[1] + taken.get(0).price;
                break;
            case 21:
                p[2] = price;
                p[1] = p[2] + taken.get(0).price;
                break;
            case 22:
                p[2] = price;
                p[1] = p[2] + taken.get(0).price;
                p[0] = p[1] + taken.get(1).price;
                break;
            case 31:
                p[0] = taken.get(0).price;
                p[1] = taken.get(1).price;
                break;
            case 41:
                p[1] = taken.get(0).price;
                p[2] = taken.get(1).price;
                break;
            default:
        }
        return p;
    }

    void buys(boolean oneBuys, int contract, int one, int other, int price, int size, boolean marks) {
        if (oneBuys) deal(contract, one, other, price, size, marks);
        else deal(contract, other, one, price, size, marks);
    }

    void tradeDirect(Ord o, int price, List<Ord> taken) {
        int[] sizes = new int[taken.size()];
        int all = 0;
        for (Ord x : taken) all += x.shows;
        int size = Math.min(o.left, all);
        sizes[0] = Math.min(taken.get(0).shows, size);
        int rest = size - sizes[0], others = all - taken.get(0).shows, open = rest;
        for (int i = 1; i < sizes.length; i++) {
            sizes[i] = rest * taken.get(i).shows / others;
            open -= sizes[i];
        }
        while (open > 0) {
            for (int i = 0; i < sizes.length && open > 0; i++) {
                if (taken.get(i).shows > sizes[i]) {
                    happens("one more by shares");
                    sizes[i]++;
                    open--;
                }
            }
        }
        for (int i = 0; i < sizes.length; i++) {
            if (sizes[i] == 0) continue;
            Ord x = taken.get(i);
            if (o.book <= 2) {
                buys(o.isBuy, o.book, o.member, x.member, price, sizes[i], true);
            } else {
                int second = o.book - 2;
                buys(!o.isBuy, second, o.member, x.member, mark[second], sizes[i], false);
                buys(o.isBuy, o.book - 3, o.member, x.member, mark[second] + price, sizes[i], false);
            }
            takeLeft(o, sizes[i]);
            takeResting(x, sizes[i]);
        }
        bookTrades(o.book, price);
    }

    void tradeImplied(Ord o, int way, int price, List<Ord> taken, int[] p) {
        int size = o.left;
        for (Ord x : taken) size = Math.min(size, x.shows);
        int[] m = new int[taken.size()];
        for (int i = 0; i < m.length; i++) m[i] = taken.get(i).member;
        boolean b = o.isBuy;
        switch (o.book * 10 + way) {
            case 1: // the spread's member sells 0 to the one that comes, and buys 1
                buys(b, 0, o.member, m[0], p[0], size, true);
                buys(b, 1, m[0], m[1], p[1], size, true);
                break;
            case 2:
                buys(b, 0, o.member, m[0], p[0], size, true);
                buys(b, 1, m[0], m[1], p[1], size, true);
                buys(b, 2, m[1], m[2], p[2], size, true);
                break;
            case 11:
                buys(b, 1, o.member, m[0], p[1], size, true);
                buys(b, 2, m[0], m[1], p[2], size, true);
                break;
            case 12:
                buys(b, 1, o.member, m[0], p[1], size, true);
                buys(b, 0, m[0], m[1], p[0], size, true);
                break;
            case 21:
                buys(b, 2, o.member, m[0], p[2], size, true);
                buys(b, 1, m[0], m[1], p[1], size, true);
                break;
            case 22:
                buys(b, 2, o.member, m[0], p[2], size, true);
                buys(b, 1, m[0], m[1], p[1], size, true);
                buys(b, 0, m[1], m[2], p[0], size, true);
                break;
            case 31:
                buys(b, 0, o.member, m[0], p[0], size, true);
                buys(!b, 1, o.member, m[1], p[1], size, true);
                break;
            case 41:
                buys(b, 1, o.member, m[0], p[1], size, true);
                buys(!b, 2, o.member, m[1], p[2], size, true);
                break;
            default:
                throw new AssertionError();
        }
        takeLeft(o, size);
        bookTrades(o.book, price);
        for (Ord x : taken) {
            bookTrades(x.book, x.price);
            takeResting(x, size);
        }
    }

    // ---- trades, defaults

    int bust(int t) {
        noSuch(noDeal(t));
        Deal d = deals.get(t);
        illegal(d.isBusted || out[d.buyer] || out[d.seller]);
        d.isBusted = true;
        return d.size;
    }

    int bid(int m, int amount) {
        noSuch(noMember(m));
        outOfRange(amount < -1000000 || amount > 1000000);
        illegal(out[m]);
        bids[m] = amount;
        int count = 0;
        for (Integer b : bids) count += b != null ? 1 : 0;
        return count;
    }

    int fail(int f) {
        noSuch(noMember(f));
        illegal(out[f] || funds(f) >= margin(f));
        for (Ord o : orders) {
            if (o.member == f && (o.state == WAITING || o.state == RESTING)) o.state = CANCELLED;
        }
        happens("default");
        int taker = NONE;
        for (int m = 5; m >= 0; m--) {
            if (bids[m] == null || m == f || out[m]) continue;
            int[] both = new int[3];
            for (int c = 0; c < 3; c++) both[c] = position(m, c) + position(f, c);
            if (marginOf(both) > funds(m) + bids[m]) {
                happens("bid too low");
                continue;
            }
            if (taker != NONE) happens(bids[m].equals(bids[taker]) ? "bids alike" : "bids unlike");
            if (taker == NONE || bids[m] <= bids[taker]) taker = m;
        }
        for (int c = 0; c < 3; c++) {
            int p = position(f, c);
            if (p == 0) continue;
            if (taker != NONE) buys(p > 0, c, taker, f, mark[c], Math.abs(p), false);
            else tearUp(f, c, p);
        }
        if (taker != NONE) {
            happens("take-over");
            otherCash[taker] += bids[taker];
            otherCash[f] -= bids[taker];
        }
        java.util.Arrays.fill(bids, null);
        lose(f, Math.max(0, -funds(f)));
        out[f] = true;
        otherCash[f] -= cash(f);
        collateral[f] = 0;
        share[f] = 0;
        return taker;
    }

    void tearUp(int f, int c, int p) {
        int[] has = new int[6], gives = new int[6];
        long all = 0;
        for (int m = 0; m < 6; m++) {
            if (Integer.signum(position(m, c)) == -Integer.signum(p)) has[m] = Math.abs(position(m, c));
            all += has[m];
        }
        happens("tear-up");
        long rest = Math.abs(p);
        for (int m = 0; m < 6; m++) {
            gives[m] = (int) ((long) has[m] * Math.abs(p) / all);
        }
        for (int m = 0; m < 6; m++) rest -= gives[m];
        while (rest > 0) {
            for (int m = 0; m < 6 && rest > 0; m++) {
                if (gives[m] < has[m]) {
                    happens("one more torn up");
                    gives[m]++;
                    rest--;
                }
            }
        }
        for (int m = 0; m < 6; m++) {
            if (gives[m] > 0) buys(p > 0, c, m, f, mark[c], gives[m], false);
        }
    }

    void lose(int f, int loss) {
        if (loss > 0) happens("loss");
        int rest = loss;
        int own = Math.min(rest, share[f]);
        rest -= own;
        share[f] -= own;
        int fromHouse = Math.min(rest, capital);
        rest -= fromHouse;
        capital -= fromHouse;
        long all = 0;
        for (int m = 0; m < 6; m++) all += m != f && !out[m] ? share[m] : 0;
        long due = Math.min(rest, all), open = due;
        if (all > 0) {
            int[] gives = new int[6];
            for (int m = 0; m < 6; m++) {
                if (m == f || out[m]) continue;
                gives[m] = (int) (due * share[m] / all);
                open -= gives[m];
            }
            for (int m = 0; m < 6; m++) share[m] -= gives[m];
            while (open > 0) {
                for (int m = 0; m < 6 && open > 0; m++) {
                    if (m != f && !out[m] && share[m] > 0) {
                        happens("one more of the shares");
                        share[m]--;
                        open--;
                    }
                }
            }
        }
        if (due > 0) happens("loss in the shares of others");
        if (rest > due) happens("loss uncovered");
        uncovered += rest - due;
    }

    // ---- questions

    int phase(int b) { noSuch(noBook(b)); return phase[b]; }
    int orders() { return orders.size(); }
    int state(int o) { noSuch(noOrder(o)); return orders.get(o).state; }
    int left(int o) { noSuch(noOrder(o)); return orders.get(o).left; }
    int shows(int o) { noSuch(noOrder(o)); return orders.get(o).state == RESTING ? orders.get(o).shows : 0; }
    int best(int b, boolean isBuy) { return bestByAll(b, isBuy); }
    int mark(int c) { noSuch(noContract(c)); return mark[c]; }
    int middle(int c) { noSuch(noContract(c)); return middle[c]; }
    int trades() { return deals.size(); }
    int share(int m) { noSuch(noMember(m)); return share[m]; }
    boolean isOut(int m) { noSuch(noMember(m)); return out[m]; }
    int capital() { return capital; }
    int uncovered() { return uncovered; }

    int bestByAll(int b, boolean isBuy) {
        noSuch(noBook(b));
        Ord best = null;
        for (Ord o : orders) {
            if (o.state != RESTING || o.book != b || o.isBuy != isBuy) continue;
            if (best == null) {
                best = o;
            } else if (o.price != best.price) {
                if (isBuy ? o.price > best.price : o.price < best.price) best = o;
            } else if (o.stamp < best.stamp) {
                best = o;
            }
        }
        return best == null ? NONE : best.number;
    }

    int trade(int t, int figure) {
        noSuch(noDeal(t));
        outOfRange(figure < 0 || figure > 5);
        Deal d = deals.get(t);
        return new int[] {d.contract, d.buyer, d.seller, d.price, d.size, d.isBusted ? 1 : 0}[figure];
    }

    int position(int m, int c) {
        noSuch(noMember(m) || noContract(c));
        int p = 0;
        for (Deal d : deals) {
            if (d.isBusted || d.contract != c) continue;
            if (d.buyer == m) p += d.size;
            if (d.seller == m) p -= d.size;
        }
        return p;
    }

    int positionByTrades(int m, int c) { return position(m, c); }

    int cash(int m) {
        noSuch(noMember(m));
        int sum = otherCash[m];
        for (Deal d : deals) {
            if (d.isBusted) continue;
            if (d.buyer == m) sum -= d.price * d.size;
            if (d.seller == m) sum += d.price * d.size;
        }
        return sum;
    }

    int funds(int m) {
        noSuch(noMember(m));
        int f = collateral[m] + cash(m);
        for (int c = 0; c < 3; c++) f += position(m, c) * mark[c];
        return f;
    }

    int marginOf(int[] positions) {
        int most = 0;
        for (int s = 0; s < 6; s++) {
            int loss = 0;
            for (int c = 0; c < 3; c++) loss -= positions[c] * moves[s][c];
            most = Math.max(most, loss);
        }
        return most;
    }

    int margin(int m) {
        noSuch(noMember(m));
        return marginOf(new int[] {position(m, 0), position(m, 1), position(m, 2)});
    }

    int need(int m) {
        noSuch(noMember(m));
        return needWith(m, NONE);
    }

    boolean isAbove(int m, int replaced, Ord... more) {
        return needWith(m, replaced, more) > funds(m);
    }

    int needWith(int m, int replaced, Ord... more) {
        List<Ord> open = new ArrayList<>();
        for (Ord o : orders) {
            boolean isGone = replaced != NONE && (o.number == quoteBuy[m][replaced] || o.number == quoteSell[m][replaced]);
            if (o.member == m && !isGone && (o.state == WAITING || o.state == RESTING)) open.add(o);
        }
        for (Ord o : more) open.add(o);
        int[] bought = new int[3], sold = new int[3];
        for (Ord o : open) {
            if (o.book <= 2) {
                (o.isBuy ? bought : sold)[o.book] += o.left;
            } else {
                (o.isBuy ? bought : sold)[o.book - 3] += o.left;
                (o.isBuy ? sold : bought)[o.book - 2] += o.left;
            }
        }
        int most = 0;
        for (int choice = 0; choice < 8; choice++) {
            int[] p = new int[3];
            for (int c = 0; c < 3; c++) {
                p[c] = position(m, c) + ((choice >> c & 1) == 1 ? bought[c] : -sold[c]);
            }
            most = Math.max(most, marginOf(p));
        }
        return most;
    }
}
