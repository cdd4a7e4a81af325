import java.util.ArrayList;

public final class BookExchange {
    public static final int NONE = -1;
    public static final int NO_PRICE = -10000;
    public static final int SHUT = 0, CALL = 1, OPEN = 2, HALTED = 3;
    public static final int WAITING = 0, RESTING = 1, DONE = 2, CANCELLED = 3;
    public static final int CONTRACT = 0, BUYER = 1, SELLER = 2, PRICE = 3, SIZE = 4, BUSTED = 5;

    // An order that is being matched is none of the states that the face tells.
    private static final int COMING = 4;

    private static final int MEMBERS = 6;
    private static final int CONTRACTS = 3;
    private static final int BOOKS = 5;
    private static final int SCENARIOS = 6;
    private static final int MOST_ORDERS = 200;
    private static final int MOST_SIZE = 100;
    private static final int LEAST_PRICE = 1;
    private static final int MOST_PRICE = 999;
    private static final int MOST_SPREAD = 500;
    private static final int MOST_BAND = 999;
    private static final int MOST_MOVE = 500;
    private static final int MOST_PROTECTION = 1000;
    private static final int MOST_AMOUNT = 1000000;
    private static final int MOST_COLLATERAL = 100000000;
    private static final int TRADES_TO_MATCH = 1500;
    private static final int FIRST_MARK = 100;
    // No matching comes near it: each step trades, cancels an order or halts a book.
    private static final int MANY_STEPS = 1000000;

    private static final int WAYS = 3;
    private static final int LEGS = 3;
    // By books, ways and legs: 1 and the book of a leg; below 0, if an order of the
    // side of the one that comes is taken there, so that its price counts against it.
    private static final int[] LEG_TABLE = {
        1, 0, 0, 4, 2, 0, 4, 5, 3,
        2, 0, 0, 5, 3, 0, -4, 1, 0,
        3, 0, 0, -5, 2, 0, -5, -4, 1,
        4, 0, 0, 1, -2, 0, 0, 0, 0,
        5, 0, 0, 2, -3, 0, 0, 0, 0
    };

    private final House house;
    private final Floor floor;
    private final Ways ways;
    private final Matching matching;
    private final Auctions auctions;
    private final Defaults defaults;

    public BookExchange() {
        House newHouse = new House();
        Floor newFloor = new Floor(newHouse.contracts);
        Ways newWays = new Ways(newFloor.books);
        house = newHouse;
        floor = newFloor;
        ways = newWays;
        matching = new Matching(newHouse, newFloor, newWays);
        auctions = new Auctions(newHouse, newFloor);
        defaults = new Defaults(newHouse);
    }

    // ---- books

    public int call(int book) throws IndexOutOfBoundsException, IllegalStateException {
        Book asked = bookAt(book);
        requireState(asked.phase != CALL);
        int before = asked.phase;
        asked.phase = CALL;
        return before;
    }

    public int shut(int book) throws IndexOutOfBoundsException, IllegalStateException {
        Book asked = bookAt(book);
        requireState(asked.phase != SHUT);
        int before = asked.phase;
        asked.phase = SHUT;
        return before;
    }

    public int uncross(int book) throws IndexOutOfBoundsException, IllegalStateException {
        Book asked = bookAt(book);
        requireState(asked.phase == CALL || asked.phase == HALTED);
        house.forgetQuoteTrades();
        int size = auctions.open(asked);
        pullQuotes();
        letCome(floor.lowestReached());
        return size;
    }

    public boolean setShares(int book, boolean isShares) throws IndexOutOfBoundsException {
        Book asked = bookAt(book);
        boolean before = asked.isShares;
        asked.isShares = isShares;
        return before;
    }

    public void setBand(int contract, int middle, int band) throws IndexOutOfBoundsException, IllegalArgumentException {
        Contract asked = contractAt(contract);
        requireRange(middle, LEAST_PRICE, MOST_PRICE);
        requireRange(band, 0, MOST_BAND);
        asked.middle = middle;
        asked.band = band;
    }

    // ---- members

    public int deposit(int member, int amount) throws IndexOutOfBoundsException, IllegalArgumentException, IllegalStateException {
        Member asked = memberAt(member);
        requireRange(amount, -MOST_AMOUNT, MOST_AMOUNT);
        int collateral = asked.collateral + amount;
        requireState(!asked.isOut && collateral >= 0 && collateral <= MOST_COLLATERAL);
        requireState(amount >= 0 || needNow(asked) <= house.fundsOf(asked) + amount);
        asked.collateral = collateral;
        return collateral;
    }

    public int setShare(int member, int share) throws IndexOutOfBoundsException, IllegalArgumentException, IllegalStateException {
        Member asked = memberAt(member);
        requireRange(share, 0, MOST_AMOUNT);
        requireState(!asked.isOut);
        int before = asked.share;
        asked.share = share;
        return before;
    }

    public int setCapital(int capital) throws IllegalArgumentException {
        requireRange(capital, 0, MOST_AMOUNT);
        int before = house.capital;
        house.capital = capital;
        return before;
    }

    public int protect(int member, int most) throws IndexOutOfBoundsException, IllegalArgumentException {
        Member asked = memberAt(member);
        requireRange(most, 0, MOST_PROTECTION);
        int before = asked.protection;
        asked.protection = most;
        return before;
    }

    public int setMove(int scenario, int contract, int move) throws IndexOutOfBoundsException, IllegalArgumentException {
        requireIndex(scenario, SCENARIOS);
        requireIndex(contract, CONTRACTS);
        requireRange(move, -MOST_MOVE, MOST_MOVE);
        int before = house.moveOf(scenario, contract);
        house.putMove(scenario, contract, move);
        return before;
    }

    // ---- orders

    public int order(int member, int book, boolean isBuy, int price, int size, int peak) throws IndexOutOfBoundsException, IllegalArgumentException, IllegalStateException {
        Member sender = memberAt(member);
        Book asked = bookAt(book);
        requirePrice(asked, price);
        requireRange(size, 1, MOST_SIZE);
        requireRange(peak, 1, size);
        requireState(asked.phase != SHUT);
        requireRoom(sender, 1);
        if (isRefused(sender, asked, isBuy, size)) {
            return NONE;
        }
        Order order = floor.addOrder(sender, asked, isBuy, price, size);
        order.peak = peak;
        house.forgetQuoteTrades();
        letCome(order);
        return order.number;
    }

    public int now(int member, int book, boolean isBuy, int price, int size) throws IndexOutOfBoundsException, IllegalArgumentException, IllegalStateException {
        Member sender = memberAt(member);
        Book asked = bookAt(book);
        requirePrice(asked, price);
        requireRange(size, 1, MOST_SIZE);
        requireState(asked.phase == OPEN);
        requireRoom(sender, 1);
        if (isRefused(sender, asked, isBuy, size)) {
            return NONE;
        }
        Order order = floor.addOrder(sender, asked, isBuy, price, size);
        order.isNow = true;
        house.forgetQuoteTrades();
        letCome(order);
        return order.number;
    }

    public int stop(int member, int book, boolean isBuy, int price, int size, int trigger) throws IndexOutOfBoundsException, IllegalArgumentException, IllegalStateException {
        Member sender = memberAt(member);
        Book asked = bookAt(book);
        requirePrice(asked, price);
        requireRange(size, 1, MOST_SIZE);
        requirePrice(asked, trigger);
        requireState(asked.phase != SHUT);
        requireRoom(sender, 1);
        if (isRefused(sender, asked, isBuy, size)) {
            return NONE;
        }
        Order order = floor.addOrder(sender, asked, isBuy, price, size);
        order.trigger = trigger;
        order.state = WAITING;
        return order.number;
    }

    public int quote(int member, int book, int bid, int ask, int size) throws IndexOutOfBoundsException, IllegalArgumentException, IllegalStateException {
        Member sender = memberAt(member);
        Book asked = bookAt(book);
        requirePrice(asked, bid);
        requirePrice(asked, ask);
        requireRange(ask, bid + 1, MOST_PRICE);
        requireRange(size, 1, MOST_SIZE);
        requireState(asked.phase != SHUT);
        requireRoom(sender, 2);
        if (isQuoteRefused(sender, asked, size)) {
            return NONE;
        }
        floor.withdrawQuotes(sender, asked);
        house.forgetQuoteTrades();
        Order buy = floor.addOrder(sender, asked, true, bid, size);
        buy.isQuote = true;
        letCome(buy);
        Order sell = floor.addOrder(sender, asked, false, ask, size);
        sell.isQuote = true;
        letCome(sell);
        return buy.number;
    }

    public int cancel(int order) throws IndexOutOfBoundsException, IllegalStateException {
        Order asked = orderAt(order);
        requireState(asked.isLive());
        floor.withdraw(asked);
        return asked.left;
    }

    // ---- trades, defaults

    public int bust(int trade) throws IndexOutOfBoundsException, IllegalStateException {
        Trade asked = tradeAt(trade);
        requireState(!asked.isBusted && !asked.buyer.isOut && !asked.seller.isOut);
        asked.isBusted = true;
        asked.settle(-asked.size);
        return asked.size;
    }

    public int bid(int member, int amount) throws IndexOutOfBoundsException, IllegalArgumentException, IllegalStateException {
        Member asked = memberAt(member);
        requireRange(amount, -MOST_AMOUNT, MOST_AMOUNT);
        requireState(!asked.isOut);
        asked.hasBid = true;
        asked.bidAmount = amount;
        return house.countBids();
    }

    public int fail(int member) throws IndexOutOfBoundsException, IllegalStateException {
        Member asked = memberAt(member);
        requireState(!asked.isOut && house.fundsOf(asked) < house.marginOf(asked, null));
        floor.withdrawAll(asked);
        Member taker = defaults.takerFor(asked);
        if (taker != null) {
            defaults.takeOver(asked, taker);
        } else {
            defaults.tearUpAll(asked);
        }
        house.forgetBids();
        defaults.close(asked);
        return taker != null ? taker.number : NONE;
    }

    // ---- books and orders as they are

    public int phase(int book) throws IndexOutOfBoundsException {
        return bookAt(book).phase;
    }

    public int orders() {
        return floor.orders.size();
    }

    public int state(int order) throws IndexOutOfBoundsException {
        return orderAt(order).state;
    }

    public int left(int order) throws IndexOutOfBoundsException {
        return orderAt(order).left;
    }

    public int shows(int order) throws IndexOutOfBoundsException {
        Order asked = orderAt(order);
        return asked.state == RESTING ? asked.shown : 0;
    }

    public int best(int book, boolean isBuy) throws IndexOutOfBoundsException {
        return numberOf(bookAt(book).bestOn(isBuy));
    }

    public int bestByAll(int book, boolean isBuy) throws IndexOutOfBoundsException {
        return numberOf(floor.bestOfAll(bookAt(book), isBuy));
    }

    public int way(int book, boolean isBuy) throws IndexOutOfBoundsException {
        return ways.bestWay(bookAt(book), isBuy);
    }

    public int wayPrice(int book, boolean isBuy) throws IndexOutOfBoundsException {
        Book asked = bookAt(book);
        return ways.priceOf(asked, ways.bestWay(asked, isBuy), isBuy);
    }

    public int auction(int book) throws IndexOutOfBoundsException {
        return auctions.priceOf(bookAt(book));
    }

    public int mark(int contract) throws IndexOutOfBoundsException {
        return contractAt(contract).mark;
    }

    public int middle(int contract) throws IndexOutOfBoundsException {
        return contractAt(contract).middle;
    }

    // ---- trades, members as they are

    public int trades() {
        return house.trades.size();
    }

    public int trade(int trade, int figure) throws IndexOutOfBoundsException, IllegalArgumentException {
        Trade asked = tradeAt(trade);
        requireRange(figure, CONTRACT, BUSTED);
        switch (figure) {
            case CONTRACT: return asked.contract.number;
            case BUYER: return asked.buyer.number;
            case SELLER: return asked.seller.number;
            case PRICE: return asked.price;
            case SIZE: return asked.size;
            default: return asked.isBusted ? 1 : 0;
        }
    }

    public int position(int member, int contract) throws IndexOutOfBoundsException {
        Member asked = memberAt(member);
        return asked.positionIn(contractAt(contract));
    }

    public int positionByTrades(int member, int contract) throws IndexOutOfBoundsException {
        Member asked = memberAt(member);
        return house.positionFromTrades(asked, contractAt(contract));
    }

    public int cash(int member) throws IndexOutOfBoundsException {
        return memberAt(member).cash;
    }

    public int funds(int member) throws IndexOutOfBoundsException {
        return house.fundsOf(memberAt(member));
    }

    public int margin(int member) throws IndexOutOfBoundsException {
        return house.marginOf(memberAt(member), null);
    }

    public int need(int member) throws IndexOutOfBoundsException {
        return needNow(memberAt(member));
    }

    public int share(int member) throws IndexOutOfBoundsException {
        return memberAt(member).share;
    }

    public boolean isOut(int member) throws IndexOutOfBoundsException {
        return memberAt(member).isOut;
    }

    public int capital() {
        return house.capital;
    }

    public int uncovered() {
        return house.uncovered;
    }

    // ---- what calls share

    private static void requireIndex(int index, int count) {
        if (index < 0 || index >= count) {
            throw new IndexOutOfBoundsException("there is no such one");
        }
    }

    private static void requireRange(int value, int least, int most) {
        if (value < least || value > most) {
            throw new IllegalArgumentException("out of range");
        }
    }

    private static void requirePrice(Book book, int price) {
        if (book.isSpread()) {
            requireRange(price, -MOST_SPREAD, MOST_SPREAD);
        } else {
            requireRange(price, LEAST_PRICE, MOST_PRICE);
        }
    }

    private static void requireState(boolean holds) {
        if (!holds) {
            throw new IllegalStateException("not as things are");
        }
    }

    private void requireRoom(Member sender, int count) {
        requireState(!sender.isOut && floor.orders.size() + count <= MOST_ORDERS);
    }

    private Member memberAt(int member) {
        if (member < 0 || member >= house.members.length) {
            throw new IndexOutOfBoundsException("there is no such member");
        }
        return house.members[member];
    }

    private Contract contractAt(int contract) {
        if (contract < 0 || contract >= house.contracts.length) {
            throw new IndexOutOfBoundsException("there is no such contract");
        }
        return house.contracts[contract];
    }

    private Book bookAt(int book) {
        if (book < 0 || book >= floor.books.length) {
            throw new IndexOutOfBoundsException("there is no such book");
        }
        return floor.books[book];
    }

    private Order orderAt(int order) {
        if (order < 0 || order >= floor.orders.size()) {
            throw new IndexOutOfBoundsException("there is no such order");
        }
        return floor.orders.get(order);
    }

    private Trade tradeAt(int trade) {
        if (trade < 0 || trade >= house.trades.size()) {
            throw new IndexOutOfBoundsException("there is no such trade");
        }
        return house.trades.get(trade);
    }

    private static int numberOf(Order order) {
        return order == null ? NONE : order.number;
    }

    private int needNow(Member member) {
        return house.needOf(member, floor.openSizes(member, null));
    }

    private boolean isRefused(Member sender, Book book, boolean isBuy, int size) {
        int[] open = floor.openSizes(sender, null);
        Floor.addOpenSize(open, book, isBuy, size);
        return house.needOf(sender, open) > house.fundsOf(sender);
    }

    private boolean isQuoteRefused(Member sender, Book book, int size) {
        int[] open = floor.openSizes(sender, book);
        Floor.addOpenSize(open, book, true, size);
        Floor.addOpenSize(open, book, false, size);
        return house.needOf(sender, open) > house.fundsOf(sender);
    }

    /** Lets an order come, if there is one, and behind it those whose triggers are reached. */
    private void letCome(Order order) {
        Order next = order;
        for (int turn = 0; next != null && turn <= MOST_ORDERS; turn++) {
            next.state = COMING;
            if (next.book.phase == OPEN) {
                matching.match(next);
            }
            floor.settle(next);
            pullQuotes();
            next = floor.lowestReached();
        }
    }

    private void pullQuotes() {
        for (Member member : house.members) {
            if (member.protection > 0 && member.quoteTraded > member.protection) {
                floor.withdrawQuotes(member, null);
            }
        }
    }

    // ---- classes inside

    private static final class Contract {
        final int number;
        int mark = FIRST_MARK;
        int middle = FIRST_MARK;
        int band = MOST_BAND;

        Contract(int number) {
            this.number = number;
        }

        boolean isTooFar(int price) {
            return Math.abs(price - middle) > band;
        }
    }

    private static final class Member {
        final int number;
        final int[] positions = new int[CONTRACTS];
        int collateral;
        int cash;
        int share;
        int protection;
        // What orders of its quotes have traded by the call that goes on.
        int quoteTraded;
        // What it gives up of a position in the tear-up that goes on.
        int given;
        int bidAmount;
        boolean hasBid;
        boolean isOut;

        Member(int number) {
            this.number = number;
        }

        int positionIn(Contract contract) {
            int at = contract.number;
            return at >= 0 && at < positions.length ? positions[at] : 0;
        }
    }

    private static final class Trade {
        final Contract contract;
        final Member buyer;
        final Member seller;
        final int price;
        final int size;
        boolean isBusted;

        Trade(Contract contract, Member buyer, Member seller, int price, int size) {
            this.contract = contract;
            this.buyer = buyer;
            this.seller = seller;
            this.price = price;
            this.size = size;
        }

        /** Moves a size and what it costs; a size below 0 moves them back. */
        void settle(int moved) {
            int at = contract.number;
            if (at >= 0 && at < buyer.positions.length && at < seller.positions.length) {
                buyer.positions[at] += moved;
                seller.positions[at] -= moved;
            }
            buyer.cash -= price * moved;
            seller.cash += price * moved;
        }
    }

    private static final class Order {
        final int number;
        final Member member;
        final Book book;
        final boolean isBuy;
        final int price;
        int peak;
        int trigger;
        boolean isNow;
        boolean isQuote;
        boolean isReached;
        int state = COMING;
        int left;
        int shown;
        int stamp;
        // In the step that goes on: what it trades by the way 0, the contract that bands hold, and its price.
        int portion;
        Contract traded;
        int tradedPrice;
        // The resting order of its book and side that it is the next better one of.
        Order next;

        Order(int number, Member member, Book book, boolean isBuy, int price, int size) {
            this.number = number;
            this.member = member;
            this.book = book;
            this.isBuy = isBuy;
            this.price = price;
            this.peak = size;
            this.left = size;
        }

        boolean isLive() {
            return state == WAITING || state == RESTING;
        }

        boolean accepts(int tradePrice) {
            return isBuy ? tradePrice <= price : tradePrice >= price;
        }

        boolean isReachedBy(int tradePrice) {
            return isBuy ? tradePrice >= trigger : tradePrice <= trigger;
        }

        /** Tells which one of two orders of a book and side is better. */
        boolean isBetterThan(Order other) {
            if (price == other.price) {
                return stamp < other.stamp;
            }
            return isBuy ? price > other.price : price < other.price;
        }

        void showAnew() {
            shown = Math.min(peak, left);
        }
    }

    /** A book, with a chain of resting orders for each side, the best one first. */
    private static final class Book {
        final int number;
        final Contract first;
        // The second contract of a spread; null in the book of a contract.
        final Contract second;
        int phase = SHUT;
        boolean isShares;
        // Behind either of them those that are worse, one by one.
        private Order bestBuy;
        private Order bestSell;

        Book(int number, Contract first, Contract second) {
            this.number = number;
            this.first = first;
            this.second = second;
        }

        boolean isSpread() {
            return second != null;
        }

        Order bestOn(boolean isBuy) {
            return isBuy ? bestBuy : bestSell;
        }

        /** Puts in an order whose stamp is later than all others. */
        void insert(Order order) {
            Order before = null;
            Order behind = order.isBuy ? bestBuy : bestSell;
            int sign = order.isBuy ? 1 : -1;
            while (behind != null && sign * behind.price >= sign * order.price) {
                before = behind;
                behind = behind.next;
            }
            order.next = behind;
            if (before != null) {
                before.next = order;
            } else if (order.isBuy) {
                bestBuy = order;
            } else {
                bestSell = order;
            }
        }

        void remove(Order order) {
            Order before = null;
            Order at = order.isBuy ? bestBuy : bestSell;
            while (at != null && at != order) {
                before = at;
                at = at.next;
            }
            if (at == null) {
                return;
            }
            if (before != null) {
                before.next = at.next;
            } else if (order.isBuy) {
                bestBuy = at.next;
            } else {
                bestSell = at.next;
            }
            at.next = null;
        }
    }

    /** Members, contracts and trades, and what follows from them alone. */
    private static final class House {
        final Contract[] contracts = new Contract[CONTRACTS];
        final Member[] members = new Member[MEMBERS];
        final ArrayList<Trade> trades = new ArrayList<Trade>();
        private final int[] moves = new int[SCENARIOS * CONTRACTS];
        int capital;
        int uncovered;

        House() {
            for (int i = 0; i < CONTRACTS; i++) {
                contracts[i] = new Contract(i);
            }
            for (int i = 0; i < MEMBERS; i++) {
                members[i] = new Member(i);
            }
        }

        int moveOf(int scenario, int contract) {
            int at = scenario * CONTRACTS + contract;
            return at >= 0 && at < moves.length ? moves[at] : 0;
        }

        void putMove(int scenario, int contract, int move) {
            int at = scenario * CONTRACTS + contract;
            if (at >= 0 && at < moves.length) {
                moves[at] = move;
            }
        }

        void record(Contract contract, Member buyer, Member seller, int price, int size) {
            Trade trade = new Trade(contract, buyer, seller, price, size);
            trades.add(trade);
            trade.settle(size);
        }

        /** Records a trade that the mark follows. */
        void deal(Contract contract, Member buyer, Member seller, int price, int size) {
            record(contract, buyer, seller, price, size);
            contract.mark = price;
        }

        /** Lets two orders of the same book trade, whose price tells nothing of a mark if it is a spread. */
        void dealInBook(Book book, Member buyer, Member seller, int price, int size) {
            if (book.second == null) {
                record(book.first, buyer, seller, price, size);
                book.first.mark = price;
            } else {
                int mark = book.second.mark;
                record(book.second, seller, buyer, mark, size);
                record(book.first, buyer, seller, mark + price, size);
            }
        }

        int positionFromTrades(Member member, Contract contract) {
            int position = 0;
            for (int i = 0; i < trades.size(); i++) {
                Trade trade = trades.get(i);
                if (trade.contract == contract && !trade.isBusted) {
                    position += trade.buyer == member ? trade.size : 0;
                    position -= trade.seller == member ? trade.size : 0;
                }
            }
            return position;
        }

        int fundsOf(Member member) {
            int funds = member.collateral + member.cash;
            for (Contract contract : contracts) {
                funds += member.positionIn(contract) * contract.mark;
            }
            return funds;
        }

        /** The margin of the positions of a member, those of another one added if there is one. */
        int marginOf(Member member, Member added) {
            int margin = 0;
            for (int scenario = 0; scenario < SCENARIOS; scenario++) {
                int loss = 0;
                for (Contract contract : contracts) {
                    int position = member.positionIn(contract);
                    position += added == null ? 0 : added.positionIn(contract);
                    loss -= position * moveOf(scenario, contract.number);
                }
                margin = Math.max(margin, loss);
            }
            return margin;
        }

        /**
         * The need of a member, from what it could buy, and behind that what it could sell, by contracts.
         * The losses of the contracts add up, so each of them may be at its worst by itself.
         */
        int needOf(Member member, int[] open) {
            int need = 0;
            for (int scenario = 0; scenario < SCENARIOS; scenario++) {
                int loss = 0;
                for (int i = 0; i < contracts.length && i + CONTRACTS < open.length; i++) {
                    int position = member.positionIn(contracts[i]);
                    int move = moveOf(scenario, i);
                    loss += Math.max(-(position + open[i]) * move, -(position - open[i + CONTRACTS]) * move);
                }
                need = Math.max(need, loss);
            }
            return need;
        }

        void forgetQuoteTrades() {
            for (Member member : members) {
                member.quoteTraded = 0;
            }
        }

        int countBids() {
            int count = 0;
            for (Member member : members) {
                count += member.hasBid ? 1 : 0;
            }
            return count;
        }

        void forgetBids() {
            for (Member member : members) {
                member.hasBid = false;
            }
        }
    }

    /** Books and orders, and how orders change. */
    private static final class Floor {
        final Book[] books = new Book[BOOKS];
        final ArrayList<Order> orders = new ArrayList<Order>();
        private int lastStamp;

        Floor(Contract[] contracts) {
            for (int i = 0; i < BOOKS; i++) {
                boolean isSpread = i >= CONTRACTS;
                int first = isSpread ? i - CONTRACTS : i;
                books[i] = new Book(i, contracts[first], isSpread ? contracts[first + 1] : null);
            }
        }

        Order addOrder(Member member, Book book, boolean isBuy, int price, int size) {
            Order order = new Order(orders.size(), member, book, isBuy, price, size);
            orders.add(order);
            return order;
        }

        void rest(Order order) {
            lastStamp++;
            order.stamp = lastStamp;
            order.state = RESTING;
            order.showAnew();
            order.book.insert(order);
        }

        /** Lets an order that has come be what is left of it. */
        void settle(Order order) {
            if (order.left == 0) {
                order.state = DONE;
            } else if (order.isNow) {
                order.state = CANCELLED;
            } else {
                rest(order);
            }
        }

        void withdraw(Order order) {
            if (order.state == RESTING) {
                order.book.remove(order);
            }
            order.state = CANCELLED;
        }

        void withdrawAll(Member member) {
            for (int i = 0; i < orders.size(); i++) {
                Order order = orders.get(i);
                if (order.member == member && order.isLive()) {
                    withdraw(order);
                }
            }
        }

        /** Cancels the orders of the quote of a member in a book, or in all books for null. */
        void withdrawQuotes(Member member, Book book) {
            for (int i = 0; i < orders.size(); i++) {
                Order order = orders.get(i);
                boolean isThere = book == null || order.book == book;
                if (isThere && order.isQuote && order.member == member && order.isLive()) {
                    withdraw(order);
                }
            }
        }

        void take(Order order, int size) {
            order.left -= size;
            if (order.isQuote) {
                order.member.quoteTraded += size;
            }
        }

        /** Takes from a resting order, whatever it shows. */
        void takeResting(Order order, int size) {
            take(order, size);
            if (order.left == 0) {
                order.book.remove(order);
                order.state = DONE;
            }
        }

        /** Takes from a resting order, and from what it shows. */
        void takeShown(Order order, int size) {
            takeResting(order, size);
            order.shown -= size;
            if (order.shown == 0 && order.left > 0) {
                order.book.remove(order);
                rest(order);
            }
        }

        void noteTrade(Book book, int price) {
            for (int i = 0; i < orders.size(); i++) {
                Order order = orders.get(i);
                if (order.state == WAITING && order.book == book && order.isReachedBy(price)) {
                    order.isReached = true;
                }
            }
        }

        Order lowestReached() {
            for (int i = 0; i < orders.size(); i++) {
                Order order = orders.get(i);
                if (order.state == WAITING && order.isReached) {
                    return order;
                }
            }
            return null;
        }

        Order bestOfAll(Book book, boolean isBuy) {
            Order best = null;
            for (int i = 0; i < orders.size(); i++) {
                Order order = orders.get(i);
                boolean isAsked = order.state == RESTING && order.book == book && order.isBuy == isBuy;
                if (isAsked && (best == null || order.isBetterThan(best))) {
                    best = order;
                }
            }
            return best;
        }

        /**
         * What a member could buy, and behind that what it could sell, by contracts;
         * without the orders of its quote in the book that is replaced, if there is one.
         */
        int[] openSizes(Member member, Book replaced) {
            int[] open = new int[2 * CONTRACTS];
            for (int i = 0; i < orders.size(); i++) {
                Order order = orders.get(i);
                boolean isReplaced = order.isQuote && order.book == replaced;
                if (order.member == member && order.isLive() && !isReplaced) {
                    addOpenSize(open, order.book, order.isBuy, order.left);
                }
            }
            return open;
        }

        static void addOpenSize(int[] open, Book book, boolean isBuy, int size) {
            addOpenSide(open, book.first, isBuy, size);
            if (book.second != null) {
                addOpenSide(open, book.second, !isBuy, size);
            }
        }

        private static void addOpenSide(int[] open, Contract contract, boolean isBuy, int size) {
            int at = isBuy ? contract.number : contract.number + CONTRACTS;
            if (at >= 0 && at < open.length) {
                open[at] += size;
            }
        }
    }

    /** The ways by which an order that comes can trade. */
    private static final class Ways {
        private final Book[] books;

        Ways(Book[] books) {
            this.books = books;
        }

        /** The order that a leg of a way takes; null if there is none, or no such leg. */
        Order orderFor(int leg, boolean isBuy) {
            int at = Math.abs(leg) - 1;
            if (at < 0 || at >= books.length || books[at].phase != OPEN) {
                return null;
            }
            return books[at].bestOn(leg > 0 ? !isBuy : isBuy);
        }

        /** A leg from the table; 0 if there is none. */
        int legAt(Book book, int way, int leg) {
            int at = (book.number * WAYS + way) * LEGS + leg;
            boolean isLeg = way >= 0 && way < WAYS && leg >= 0 && leg < LEGS;
            return isLeg && at >= 0 && at < LEG_TABLE.length ? LEG_TABLE[at] : 0;
        }

        int priceOf(Book book, int way, boolean isBuy) {
            if (legAt(book, way, 0) == 0) {
                return NO_PRICE;
            }
            int price = 0;
            for (int i = 0; i < LEGS; i++) {
                int leg = legAt(book, way, i);
                if (leg != 0) {
                    Order order = orderFor(leg, isBuy);
                    if (order == null) {
                        return NO_PRICE;
                    }
                    price += leg > 0 ? order.price : -order.price;
                }
            }
            return price;
        }

        int bestWay(Book book, boolean isBuy) {
            int best = NONE;
            int bestPrice = NO_PRICE;
            for (int way = 0; way < WAYS; way++) {
                int price = priceOf(book, way, isBuy);
                boolean isBetter = isBuy ? price < bestPrice : price > bestPrice;
                if (price != NO_PRICE && (best == NONE || isBetter)) {
                    best = way;
                    bestPrice = price;
                }
            }
            return best;
        }
    }

    /** Matches an order that comes, step by step. */
    private static final class Matching {
        private final House house;
        private final Floor floor;
        private final Ways ways;
        private final ArrayList<Order> taken = new ArrayList<Order>();

        Matching(House house, Floor floor, Ways ways) {
            this.house = house;
            this.floor = floor;
            this.ways = ways;
        }

        void match(Order order) {
            for (int step = 0; step < MANY_STEPS; step++) {
                if (order.left <= 0 || house.trades.size() >= TRADES_TO_MATCH) {
                    return;
                }
                int way = ways.bestWay(order.book, order.isBuy);
                int price = ways.priceOf(order.book, way, order.isBuy);
                if (price == NO_PRICE || !order.accepts(price)) {
                    return;
                }
                gather(order, way);
                if (withdrawOwn(order.member)) {
                    continue;
                }
                planTrades(order, way, price);
                Contract far = lowestTooFar();
                if (far != null) {
                    if (endsByHalt(far, order)) {
                        return;
                    }
                } else if (way == 0) {
                    tradeInBook(order, price);
                } else {
                    tradeByLegs(order, price);
                }
            }
        }

        private void gather(Order order, int way) {
            taken.clear();
            if (way == 0 && order.book.isShares) {
                gatherLevel(order.book.bestOn(!order.isBuy));
                return;
            }
            for (int i = 0; i < LEGS; i++) {
                Order found = ways.orderFor(ways.legAt(order.book, way, i), order.isBuy);
                if (found != null) {
                    taken.add(found);
                }
            }
        }

        private void gatherLevel(Order best) {
            for (Order at = best; at != null && at.price == best.price; at = at.next) {
                taken.add(at);
            }
        }

        private boolean withdrawOwn(Member member) {
            boolean isFound = false;
            for (int i = 0; i < taken.size(); i++) {
                if (taken.get(i).member == member) {
                    floor.withdraw(taken.get(i));
                    isFound = true;
                }
            }
            return isFound;
        }

        /** Tells each order taken which contract it trades with the one before, and the price of that. */
        private void planTrades(Order order, int way, int price) {
            Book book = order.book;
            if (book.second == null) {
                planChain(book.first, price);
                return;
            }
            for (int i = 0; i < taken.size(); i++) {
                Order other = taken.get(i);
                // By its way 0 a spread trades both contracts with one order, and no band holds them.
                other.traded = way == 0 ? null : i == 0 ? book.first : book.second;
                other.tradedPrice = other.price;
            }
        }

        private void planChain(Contract first, int firstPrice) {
            Contract contract = first;
            int price = firstPrice;
            for (int i = 0; i < taken.size(); i++) {
                Order other = taken.get(i);
                other.traded = contract;
                other.tradedPrice = price;
                if (other.book.second != null) {
                    boolean isFirst = other.book.first == contract;
                    price += isFirst ? -other.price : other.price;
                    contract = isFirst ? other.book.second : other.book.first;
                }
            }
        }

        private Contract lowestTooFar() {
            Contract lowest = null;
            for (int i = 0; i < taken.size(); i++) {
                Contract traded = taken.get(i).traded;
                boolean isFar = traded != null && traded.isTooFar(taken.get(i).tradedPrice);
                if (isFar && (lowest == null || traded.number < lowest.number)) {
                    lowest = traded;
                }
            }
            return lowest;
        }

        /** Halts the book of a contract; tells whether the matching ends by it. */
        private boolean endsByHalt(Contract far, Order order) {
            int halted = far.number;
            if (halted >= 0 && halted < floor.books.length) {
                floor.books[halted].phase = HALTED;
            }
            if (order.book.number == halted) {
                return true;
            }
            for (int i = 0; i < taken.size(); i++) {
                if (taken.get(i).book.number == halted) {
                    return false;
                }
            }
            return true;
        }

        private void tradeInBook(Order order, int price) {
            setPortions(order.left);
            floor.noteTrade(order.book, price);
            for (int i = 0; i < taken.size(); i++) {
                Order other = taken.get(i);
                int size = other.portion;
                if (size > 0) {
                    Member buyer = order.isBuy ? order.member : other.member;
                    Member seller = order.isBuy ? other.member : order.member;
                    house.dealInBook(order.book, buyer, seller, price, size);
                    floor.take(order, size);
                    floor.takeShown(other, size);
                }
            }
        }

        /** Divides a size among the orders taken, of which there is one if the book matches by time. */
        private void setPortions(int most) {
            int shown = 0;
            for (int i = 0; i < taken.size(); i++) {
                shown += taken.get(i).shown;
            }
            int size = Math.min(most, shown);
            int rest = size;
            int others = 0;
            int shared = 0;
            for (int i = 0; i < taken.size(); i++) {
                Order other = taken.get(i);
                if (i == 0) {
                    other.portion = Math.min(other.shown, size);
                    shared = size - other.portion;
                    others = shown - other.shown;
                } else {
                    other.portion = others > 0 ? shared * other.shown / others : 0;
                }
                rest -= other.portion;
            }
            divideRest(rest);
        }

        private void divideRest(int size) {
            int rest = size;
            // Each share was rounded down by less than one, so one turn is enough.
            for (int i = 0; i < taken.size(); i++) {
                Order other = taken.get(i);
                if (rest > 0 && other.shown > other.portion) {
                    other.portion++;
                    rest--;
                }
            }
        }

        /** By a spread the order trades with each one taken, otherwise each one taken with the next. */
        private void tradeByLegs(Order order, int price) {
            int size = order.left;
            for (int i = 0; i < taken.size(); i++) {
                size = Math.min(size, taken.get(i).shown);
            }
            boolean isSpread = order.book.isSpread();
            Member near = order.member;
            floor.noteTrade(order.book, price);
            floor.take(order, size);
            for (int i = 0; i < taken.size(); i++) {
                Order leg = taken.get(i);
                Member other = leg.member;
                boolean nearBuys = isSpread && i > 0 ? !order.isBuy : order.isBuy;
                if (leg.traded != null) {
                    house.deal(leg.traded, nearBuys ? near : other, nearBuys ? other : near, leg.tradedPrice, size);
                }
                if (!isSpread) {
                    near = other;
                }
                floor.noteTrade(leg.book, leg.price);
                floor.takeShown(leg, size);
            }
        }
    }

    private static final class Auctions {
        private final House house;
        private final Floor floor;

        Auctions(House house, Floor floor) {
            this.house = house;
            this.floor = floor;
        }

        int priceOf(Book book) {
            int middle = book.isSpread() ? 0 : book.first.mark;
            int best = NO_PRICE;
            int bestSize = 0;
            int bestGap = 0;
            for (int side = 0; side < 2; side++) {
                for (Order at = book.bestOn(side == 0); at != null; at = at.next) {
                    int bought = amountAt(book, true, at.price);
                    int sold = amountAt(book, false, at.price);
                    int size = Math.min(bought, sold);
                    int gap = Math.abs(bought - sold);
                    boolean isLikeBest = size == bestSize && size > 0;
                    boolean isNearer = gap == bestGap && isNearer(at.price, best, middle);
                    if (size > bestSize || isLikeBest && (gap < bestGap || isNearer)) {
                        best = at.price;
                        bestSize = size;
                        bestGap = gap;
                    }
                }
            }
            return best;
        }

        private static boolean isNearer(int price, int other, int middle) {
            int away = Math.abs(price - middle);
            int otherAway = Math.abs(other - middle);
            return away < otherAway || away == otherAway && price < other;
        }

        private static int amountAt(Book book, boolean isBuy, int price) {
            int amount = 0;
            for (Order at = book.bestOn(isBuy); at != null && at.accepts(price); at = at.next) {
                amount += at.left;
            }
            return amount;
        }

        /** Uncrosses a book; answers the size that is traded. */
        int open(Book book) {
            int price = priceOf(book);
            int size = price == NO_PRICE ? 0 : Math.min(amountAt(book, true, price), amountAt(book, false, price));
            tradeAll(book, price, size);
            showAllAnew(book.bestOn(true));
            showAllAnew(book.bestOn(false));
            if (size > 0) {
                floor.noteTrade(book, price);
                if (!book.isSpread()) {
                    book.first.middle = price;
                }
            }
            book.phase = OPEN;
            return size;
        }

        private void tradeAll(Book book, int price, int size) {
            int rest = size;
            for (int turn = 0; rest > 0 && turn < 2 * MOST_ORDERS; turn++) {
                Order buy = book.bestOn(true);
                Order sell = book.bestOn(false);
                if (buy == null || sell == null) {
                    return;
                }
                int amount = Math.min(buy.left, sell.left);
                house.dealInBook(book, buy.member, sell.member, price, amount);
                floor.takeResting(buy, amount);
                floor.takeResting(sell, amount);
                rest -= amount;
            }
        }

        private static void showAllAnew(Order best) {
            for (Order at = best; at != null; at = at.next) {
                at.showAnew();
            }
        }
    }

    private static final class Defaults {
        private final House house;

        Defaults(House house) {
            this.house = house;
        }

        /** The bidder who takes over the positions of a member in default; null if there is none. */
        Member takerFor(Member failed) {
            Member taker = null;
            for (Member member : house.members) {
                boolean isLess = taker == null || member.bidAmount < taker.bidAmount;
                if (member.hasBid && isLess && canTake(member, failed)) {
                    taker = member;
                }
            }
            return taker;
        }

        private boolean canTake(Member member, Member failed) {
            return member != failed && !member.isOut
                && house.marginOf(member, failed) <= house.fundsOf(member) + member.bidAmount;
        }

        void takeOver(Member failed, Member taker) {
            for (Contract contract : house.contracts) {
                passOn(failed, taker, contract, Math.abs(failed.positionIn(contract)));
            }
            failed.cash -= taker.bidAmount;
            taker.cash += taker.bidAmount;
        }

        /** Lets a member take some of a position of the one in default, at the mark. */
        private void passOn(Member failed, Member member, Contract contract, int size) {
            boolean isLong = failed.positionIn(contract) > 0;
            if (size > 0) {
                house.record(contract, isLong ? member : failed, isLong ? failed : member, contract.mark, size);
            }
        }

        void tearUpAll(Member failed) {
            for (Contract contract : house.contracts) {
                tearUp(failed, contract);
            }
        }

        private void tearUp(Member failed, Contract contract) {
            int size = Math.abs(failed.positionIn(contract));
            long all = 0;
            for (Member member : house.members) {
                all += sizeAgainst(failed, member, contract);
            }
            if (size == 0 || all <= 0) {
                return;
            }
            int rest = size;
            for (Member member : house.members) {
                member.given = (int) ((long) sizeAgainst(failed, member, contract) * size / all);
                rest -= member.given;
            }
            giveUpRest(failed, contract, rest);
            for (Member member : house.members) {
                passOn(failed, member, contract, member.given);
            }
        }

        /** The position of a member without its sign, if it has the other sign than that of the one in default. */
        private static int sizeAgainst(Member failed, Member member, Contract contract) {
            int position = member.positionIn(contract);
            int against = failed.positionIn(contract);
            return position > 0 && against < 0 || position < 0 && against > 0 ? Math.abs(position) : 0;
        }

        private void giveUpRest(Member failed, Contract contract, int size) {
            int rest = size;
            // Each share was rounded down by less than one, so one turn is enough.
            for (Member member : house.members) {
                if (rest > 0 && member.given < sizeAgainst(failed, member, contract)) {
                    member.given++;
                    rest--;
                }
            }
        }

        /** Covers the loss of the one in default, if there is one, and puts it OUT. */
        void close(Member failed) {
            int loss = Math.max(0, -house.fundsOf(failed));
            loss -= Math.min(loss, failed.share);
            int fromCapital = Math.min(loss, house.capital);
            house.capital -= fromCapital;
            failed.isOut = true;
            failed.cash = 0;
            failed.collateral = 0;
            failed.share = 0;
            house.uncovered += coverByShares(loss - fromCapital);
        }

        /** Takes a loss from the shares of all who are not OUT; answers what is left of it. */
        private int coverByShares(int loss) {
            long all = 0;
            for (Member member : house.members) {
                all += member.isOut ? 0 : member.share;
            }
            if (all <= 0) {
                return loss;
            }
            long covered = Math.min(loss, all);
            long rest = covered;
            for (Member member : house.members) {
                long part = member.isOut ? 0 : covered * member.share / all;
                member.share -= (int) part;
                rest -= part;
            }
            coverRest(rest);
            return (int) (loss - covered);
        }

        private void coverRest(long size) {
            long rest = size;
            for (Member member : house.members) {
                if (rest > 0 && !member.isOut && member.share > 0) {
                    member.share--;
                    rest--;
                }
            }
        }
    }
}
