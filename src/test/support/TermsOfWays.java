/** The Terms' "Ways", sentence by sentence. */
final class TermsOfWays extends Shorthand {
    private static final int W0 = 0, W1 = 1, W2 = 2, W3 = 3, W4 = 4;
    // What is taken of the side of the one that comes.
    private static final int B = 10;
    private static final int B1 = B + 1, B2 = B + 2, B3 = B + 3, B4 = B + 4;

    /** A way to buy: its book, its number, and what it takes, one behind the other. */
    private static final int[][] WAYS = {
        {0, 0, W0}, {0, 1, W3, W1}, {0, 2, W3, W4, W2},
        {1, 0, W1}, {1, 1, W4, W2}, {1, 2, B3, W0},
        {2, 0, W2}, {2, 1, B4, W1}, {2, 2, B4, B3, W0},
        {3, 0, W3}, {3, 1, W0, B1},
        {4, 0, W4}, {4, 1, W1, B2}
    };
    // The prices of legs by books: no two ways have the same one by them.
    private static final int[] PRICES = {310, 201, 95, 7, 23};
    private static final int SIZE = 5;

    private TermsOfWays() {
    }

    static void all() {
        waysOfContracts();
        waysOfSpreads();
        whenThereIsAWay();
        theBestWay();
    }

    private static void waysOfContracts() {
        Sentences.part("### Ways");
        Sentences.says("An order that comes trades with what rests, by one of these ways, each of which takes the best resting orders of some books and sides.", () -> {
            for (int[] way : WAYS) {
                BookExchange x = rests(way, true, -1);
                for (int leg = 2; leg < way.length; leg++) {
                    // A worse one, that is not taken.
                    boolean isBuy = takesBuys(way, leg, true);
                    int book = way[leg] % B;
                    asks(isBuy, x, 4, book, PRICES[book] + (isBuy ? -1 : 1), SIZE);
                }
                x.now(0, way[0], true, highest(way[0]), 2);
                for (int order = 0; order < way.length - 2; order++) {
                    due("the best one of leg " + order, x.left(order), SIZE - 2);
                    due("the other one of leg " + order, x.left(order + way.length - 2), SIZE);
                }
            }
        });
        Sentences.says("Wk is the price of the best order that sells in the book k, Bk that of the best one that buys.", () -> {
            for (int b = 0; b < 5; b++) {
                BookExchange x = Setups.open();
                int at = b < 3 ? 100 : 0;
                sells(x, 0, b, at + 9, 1);
                sells(x, 0, b, at + 8, 1);
                buys(x, 0, b, at - 9, 1);
                buys(x, 0, b, at - 8, 1);
                due("W, the least", x.wayPrice(b, true), at + 8);
                due("B, the greatest", x.wayPrice(b, false), at - 8);
            }
        });
        Sentences.plain("The ways to buy, with their prices, and with the books of the orders taken, one behind the other:");
        Sentences.plain("```text");
        Sentences.says("in the book 0: the way 0 is W0, by 0;", () -> isWay(WAYS[0], 310));
        Sentences.says("1 is W3 and W1, together, by 3, 1;", () -> isWay(WAYS[1], 208));
        Sentences.says("2 is W3, W4 and W2, together, by 3, 4, 2;", () -> isWay(WAYS[2], 125));
        Sentences.says("in the book 1: 0 is W1, by 1;", () -> isWay(WAYS[3], 201));
        Sentences.says("1 is W4 and W2, together, by 4, 2;", () -> isWay(WAYS[4], 118));
        Sentences.says("2 is W0 less B3, by 3, 0;", () -> isWay(WAYS[5], 303));
        Sentences.says("in the book 2: 0 is W2, by 2;", () -> isWay(WAYS[6], 95));
        Sentences.says("1 is W1 less B4, by 4, 1;", () -> isWay(WAYS[7], 178));
        Sentences.says("2 is W0 less B3 and less B4, by 4, 3, 0;", () -> isWay(WAYS[8], 280));
    }

    private static void waysOfSpreads() {
        Sentences.says("in the book 3: 0 is W3, by 3;", () -> isWay(WAYS[9], 7));
        Sentences.says("1 is W0 less B1, by 0, 1;", () -> isWay(WAYS[10], 109));
        Sentences.says("in the book 4: 0 is W4, by 4;", () -> isWay(WAYS[11], 23));
        Sentences.says("1 is W1 less B2, by 1, 2.", () -> isWay(WAYS[12], 106));
        Sentences.plain("```");
        Sentences.says("The ways to sell are the same with W and B exchanged.", () -> {
            int[] prices = {310, 208, 125, 201, 118, 303, 95, 178, 280, 7, 109, 23, 106};
            for (int i = 0; i < WAYS.length; i++) {
                isWay(WAYS[i], false, prices[i]);
            }
        });
    }

    private static void isWay(int[] way, int price) {
        isWay(way, true, price);
    }

    /** Of all orders of a way there is one: asks for its number and price, and for whom the order that comes trades with. */
    private static void isWay(int[] way, boolean isBuy, int price) {
        BookExchange x = rests(way, isBuy, -1);
        due("its number", x.way(way[0], isBuy), way[1]);
        due("its price", x.wayPrice(way[0], isBuy), price);
        due("nothing for the other side", x.way(way[0], !isBuy), BookExchange.NONE);
        x.now(0, way[0], isBuy, isBuy ? price - 1 : price + 1, 1);
        due("not at a worse price", x.trades(), 0);
        x.now(0, way[0], isBuy, price, 1);
        int legs = way.length - 2;
        boolean isByOneSpread = way[0] > 2 && legs == 1;
        due("trades", x.trades(), isByOneSpread ? 2 : legs);
        int near = 0;
        for (int leg = 0; leg < legs; leg++) {
            due("1 of leg " + leg, x.left(leg), SIZE - 1);
            // The leg k is of the member k + 1; by a spread the order that comes trades with all of them.
            int sum = x.trade(leg, BookExchange.BUYER) + x.trade(leg, BookExchange.SELLER);
            due("trade " + leg + " is with leg " + leg, sum, near + leg + 1);
            near = way[0] > 2 ? 0 : leg + 1;
        }
    }

    private static boolean takesBuys(int[] way, int leg, boolean isBuy) {
        return way[leg] >= B == isBuy;
    }

    private static int highest(int book) {
        return book < 3 ? 999 : 500;
    }

    /** The orders of a way rest, but for one leg of it. */
    private static BookExchange rests(int[] way, boolean isBuy, int without) {
        BookExchange x = Setups.open();
        for (int leg = 2; leg < way.length; leg++) {
            int book = way[leg] % B;
            if (leg - 2 != without) {
                asks(takesBuys(way, leg, isBuy), x, leg - 1, book, PRICES[book], SIZE);
            }
        }
        return x;
    }

    private static void dueNoWay(String what, BookExchange x, int book, boolean isBuy) {
        due(what + ": no way", x.way(book, isBuy), BookExchange.NONE);
        due(what + ": no price", x.wayPrice(book, isBuy), BookExchange.NO_PRICE);
        if (x.phase(book) == BookExchange.OPEN) {
            int trades = x.trades();
            x.now(5, book, isBuy, isBuy ? highest(book) : book < 3 ? 1 : -500, 1);
            due(what + ": no trade", x.trades(), trades);
        }
    }

    private static void whenThereIsAWay() {
        Sentences.says("There is a way if all its books are OPEN,", () -> {
            for (int i = 0; i < 2 * WAYS.length; i++) {
                int[] way = WAYS[i / 2];
                boolean isBuy = i % 2 == 0;
                for (int leg = 2; leg < way.length; leg++) {
                    int book = way[leg] % B;
                    BookExchange x = rests(way, isBuy, -1);
                    x.call(book);
                    dueNoWay("a book in a CALL", x, way[0], isBuy);
                    x.shut(book);
                    dueNoWay("a SHUT book", x, way[0], isBuy);
                    x.call(book);
                    x.uncross(book);
                    due("OPEN again", x.way(way[0], isBuy), way[1]);
                    if (book < 3) {
                        halt(x, book, takesBuys(way, leg, isBuy));
                        dueNoWay("a HALTED book", x, way[0], isBuy);
                    }
                }
            }
        });
        Sentences.says("and each has an order on that side,", () -> {
            for (int i = 0; i < 2 * WAYS.length; i++) {
                int[] way = WAYS[i / 2];
                boolean isBuy = i % 2 == 0;
                for (int leg = 2; leg < way.length; leg++) {
                    dueNoWay("never an order", rests(way, isBuy, leg - 2), way[0], isBuy);
                    BookExchange x = rests(way, isBuy, -1);
                    x.cancel(leg - 2);
                    dueNoWay("no order any more", x, way[0], isBuy);
                    BookExchange y = rests(way, isBuy, leg - 2);
                    int book = way[leg] % B;
                    asks(!takesBuys(way, leg, isBuy), y, 4, book, PRICES[book], SIZE);
                    due("one on the other side", y.way(way[0], isBuy), BookExchange.NONE);
                }
            }
        });
        Sentences.says("whatever the book of the order itself is.", () -> {
            for (int i = 0; i < 2 * WAYS.length; i++) {
                int[] way = WAYS[i / 2];
                boolean isBuy = i % 2 == 0;
                if (way[1] > 0) {
                    BookExchange x = rests(way, isBuy, -1);
                    int price = x.wayPrice(way[0], isBuy);
                    x.call(way[0]);
                    due("in a CALL", x.way(way[0], isBuy), way[1]);
                    x.shut(way[0]);
                    due("SHUT", x.way(way[0], isBuy), way[1]);
                    due("its price too", x.wayPrice(way[0], isBuy), price);
                    x.call(way[0]);
                    x.uncross(way[0]);
                    if (way[0] < 3) {
                        asks(!isBuy, x, 4, way[0], isBuy ? 999 : 1, 1);
                        halt(x, way[0], !isBuy);
                        due("HALTED", x.way(way[0], isBuy), way[1]);
                    }
                }
            }
        });
    }

    /** Halts the book of a contract, in which an order rests, without a trade. */
    private static void halt(BookExchange x, int book, boolean isBuyResting) {
        for (int contract = 0; contract < 3; contract++) {
            x.setBand(contract, 500, contract == book ? 0 : 999);
        }
        x.now(5, book, !isBuyResting, isBuyResting ? 1 : 999, 1);
        due("a book is HALTED", x.phase(book), BookExchange.HALTED);
        due("without a trade", x.trades(), 0);
    }

    private static void theBestWay() {
        Sentences.says("The best way is the one with the least price to buy, the greatest to sell;", () -> {
            for (int side = 0; side < 2; side++) {
                for (int book = 0; book < 5; book++) {
                    int ways = book < 3 ? 3 : 2;
                    for (int best = 0; best < ways; best++) {
                        for (int other = 0; other < ways; other++) {
                            if (other != best) {
                                due("of the ways " + best + " and " + other, bestOf(book, side == 0, best, 0, other, 1), best);
                            }
                        }
                    }
                }
            }
        });
        Sentences.says("of several the first one.", () -> {
            for (int side = 0; side < 2; side++) {
                for (int book = 0; book < 5; book++) {
                    due("0 and 1", bestOf(book, side == 0, 0, 0, 1, 0), 0);
                    if (book < 3) {
                        due("0 and 2", bestOf(book, side == 0, 2, 0, 0, 0), 0);
                        due("1 and 2", bestOf(book, side == 0, 2, 0, 1, 0), 1);
                    }
                }
            }
        });
    }

    /** The best one of two ways of a book, each of them as much worse than 100 (of a spread than 0) as is told. */
    private static int bestOf(int book, boolean isBuy, int one, int worse, int other, int otherWorse) {
        BookExchange x = Setups.open();
        price(x, wayOf(book, one), isBuy, worse);
        price(x, wayOf(book, other), isBuy, otherWorse);
        due("nothing is traded yet", x.trades(), 0);
        return x.way(book, isBuy);
    }

    private static int[] wayOf(int book, int number) {
        for (int[] way : WAYS) {
            if (way[0] == book && way[1] == number) {
                return way;
            }
        }
        return WAYS[0];
    }

    /** Lets the orders of a way rest; what it is worse is in the price of a contract that no other way of the book takes. */
    private static void price(BookExchange x, int[] way, boolean isBuy, int worse) {
        int varied = way[0] < 3 || way.length == 3 ? way.length - 1 : 2;
        for (int leg = 2; leg < way.length; leg++) {
            int book = way[leg] % B;
            int more = leg == varied ? (isBuy ? worse : -worse) : 0;
            asks(takesBuys(way, leg, isBuy), x, leg - 1, book, (book < 3 ? 100 : 0) + more, 1);
        }
    }
}
