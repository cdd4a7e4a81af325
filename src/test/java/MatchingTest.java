/** The Terms on ways, matching and trades, which promises 12 to 15, 27, 28 and 33 rest on. */
public final class MatchingTest extends Shorthand {
    public static void main(String[] args) {
        waysOfBook0();
        waysOfBook1();
        waysOfBook2();
        waysOfSpreads();
        sellWays();
        theFirstOfSeveralWays();
        waysNeedOpenBooks();
        wayOfSpreadMovesNoMark();
        wayOfLegsMovesMarks();
        pricesBeyondTheRange();
        sizeIsWhatAllShow();
        ownLegsAreCancelled();
        haltOfTheOwnBook();
        haltOfATakenBook();
        haltOfABookBetween();
        haltOfTheLowest();
        noHaltByWay0OfASpread();
        sharesRounded();
        sharesAndStamps();
        sharesAndOwnOrders();
        sharesAndHalt();
        sharesOfASpread();
        sharesOnlyByWay0();
        matchingEndsAt1500Trades();
        Checks.end("MatchingTest");
    }

    private static void waysOfBook0() {
        BookExchange x = Setups.open();
        x.order(1, 3, false, 7, 5, 5);
        due("p27 one leg is no way", x.way(0, true), BookExchange.NONE);
        due("p28 nor has it a price", x.wayPrice(0, true), BookExchange.NO_PRICE);
        x.order(2, 1, false, 90, 4, 4);
        due("p27 way 1", x.way(0, true), 1);
        due("p28 W3 and W1", x.wayPrice(0, true), 97);
        x.order(3, 4, false, -3, 3, 3);
        x.order(4, 2, false, 91, 5, 5);
        due("p27 way 2", x.way(0, true), 2);
        due("p28 W3, W4 and W2", x.wayPrice(0, true), 95);
        x.now(0, 0, true, 96, 10);
        dueTrade(x, 0, 0, 0, 1, 95, 3);
        dueTrade(x, 1, 1, 1, 3, 88, 3);
        dueTrade(x, 2, 2, 3, 4, 91, 3);
        due("p12 97 is worse than 96", x.trades(), 3);
        due("p30 marks", x.mark(0) * 1000000 + x.mark(1) * 1000 + x.mark(2), 95088091);
        due("p23 left of each", x.left(0) * 1000 + x.left(2) * 100 + x.left(3), 2002);
        x.order(0, 0, true, 97, 9, 9);
        dueTrade(x, 3, 0, 0, 1, 97, 2);
        dueTrade(x, 4, 1, 1, 2, 90, 2);
        due("p12 the rest rests", x.left(5), 7);
        x.order(5, 0, false, 94, 1, 1);
        due("p27 way 0 to sell", x.state(6), BookExchange.DONE);
    }

    private static void waysOfBook1() {
        BookExchange x = Setups.open();
        x.order(2, 4, false, 5, 2, 2);
        x.order(3, 2, false, 80, 2, 2);
        due("p28 W4 and W2", x.wayPrice(1, true), 85);
        due("p27 way 1", x.way(1, true), 1);
        x.order(4, 3, true, 20, 3, 3);
        x.order(5, 0, false, 104, 3, 3);
        due("p28 W0 less B3", x.wayPrice(1, true), 84);
        due("p27 way 2", x.way(1, true), 2);
        x.now(0, 1, true, 90, 9);
        dueTrade(x, 0, 1, 0, 4, 84, 3);
        dueTrade(x, 1, 0, 4, 5, 104, 3);
        dueTrade(x, 2, 1, 0, 2, 85, 2);
        dueTrade(x, 3, 2, 2, 3, 80, 2);
        due("p12 that was all", x.trades(), 4);
    }

    private static void waysOfBook2() {
        BookExchange x = Setups.open();
        x.order(1, 4, true, 6, 4, 4);
        x.order(2, 1, false, 100, 1, 1);
        due("p28 W1 less B4", x.wayPrice(2, true), 94);
        due("p27 way 1", x.way(2, true), 1);
        x.order(3, 3, true, 11, 5, 5);
        x.order(4, 0, false, 110, 2, 2);
        due("p28 W0 less B3 and B4", x.wayPrice(2, true), 93);
        due("p27 way 2", x.way(2, true), 2);
        x.now(0, 2, true, 94, 9);
        dueTrade(x, 0, 2, 0, 1, 93, 2);
        dueTrade(x, 1, 1, 1, 3, 99, 2);
        dueTrade(x, 2, 0, 3, 4, 110, 2);
        dueTrade(x, 3, 2, 0, 1, 94, 1);
        dueTrade(x, 4, 1, 1, 2, 100, 1);
        due("p12 that was all", x.trades(), 5);
        due("p34 the one between is even", x.position(1, 1), 3);
    }

    private static void waysOfSpreads() {
        BookExchange x = Setups.open();
        x.order(1, 0, false, 105, 3, 3);
        x.order(2, 1, true, 95, 2, 2);
        due("p28 W0 less B1", x.wayPrice(3, true), 10);
        due("p27 way 1", x.way(3, true), 1);
        x.now(0, 3, true, 10, 5);
        dueTrade(x, 0, 0, 0, 1, 105, 2);
        dueTrade(x, 1, 1, 2, 0, 95, 2);
        due("p12 that was all", x.trades(), 2);
        x.order(3, 1, false, 97, 2, 2);
        x.order(4, 2, true, 90, 2, 2);
        due("p28 W1 less B2", x.wayPrice(4, true), 7);
        due("p27 way 1 of the book 4", x.way(4, true), 1);
        x.now(0, 4, true, 6, 1);
        due("p12 7 is worse than 6", x.trades(), 2);
        x.now(0, 4, true, 7, 1);
        dueTrade(x, 2, 1, 0, 3, 97, 1);
        dueTrade(x, 3, 2, 4, 0, 90, 1);
    }

    private static void sellWays() {
        BookExchange x = Setups.open();
        x.order(1, 3, true, 7, 2, 2);
        x.order(2, 4, true, 5, 2, 2);
        x.order(3, 2, true, 80, 2, 2);
        due("p28 B3, B4 and B2", x.wayPrice(0, false), 92);
        due("p28 B4 and B2", x.wayPrice(1, false), 85);
        x.now(0, 0, false, 92, 1);
        dueTrade(x, 0, 0, 1, 0, 92, 1);
        dueTrade(x, 1, 1, 2, 1, 85, 1);
        dueTrade(x, 2, 2, 3, 2, 80, 1);
        x.cancel(0);
        x.order(1, 3, false, 8, 2, 2);
        x.order(4, 0, true, 95, 2, 2);
        due("p28 B0 less W3", x.wayPrice(1, false), 87);
        due("p27 way 2 of the book 1", x.way(1, false), 2);
        x.now(0, 1, false, 87, 1);
        dueTrade(x, 3, 1, 1, 0, 87, 1);
        dueTrade(x, 4, 0, 4, 1, 95, 1);
        x.cancel(1);
        x.order(2, 4, false, 4, 2, 2);
        due("p28 B0 less W3 and W4", x.wayPrice(2, false), 83);
        x.now(0, 2, false, 83, 1);
        dueTrade(x, 5, 2, 2, 0, 83, 1);
        dueTrade(x, 6, 1, 1, 2, 87, 1);
        dueTrade(x, 7, 0, 4, 1, 95, 1);
        BookExchange y = Setups.open();
        y.order(1, 0, true, 105, 3, 3);
        y.order(2, 1, false, 95, 2, 2);
        due("p28 B0 less W1", y.wayPrice(3, false), 10);
        y.now(0, 3, false, 10, 5);
        dueTrade(y, 0, 0, 1, 0, 105, 2);
        dueTrade(y, 1, 1, 0, 2, 95, 2);
        y.order(2, 1, true, 99, 2, 2);
        y.order(3, 2, false, 98, 2, 2);
        due("p28 B1 less W2", y.wayPrice(4, false), 1);
    }

    private static void theFirstOfSeveralWays() {
        BookExchange x = Setups.open();
        x.order(1, 0, false, 100, 1, 1);
        x.order(1, 3, false, 10, 1, 1);
        x.order(1, 1, false, 90, 1, 1);
        due("p27 alike: way 0", x.way(0, true), 0);
        x.order(1, 3, false, 9, 1, 1);
        due("p27 less: way 1", x.way(0, true), 1);
        x.order(2, 4, false, -10, 1, 1);
        x.order(2, 2, false, 100, 1, 1);
        due("p27 alike: way 1 ahead of way 2", x.way(0, true), 1);
        x.order(2, 2, false, 99, 1, 1);
        due("p27 less: way 2", x.way(0, true), 2);
        due("p28 its price", x.wayPrice(0, true), 98);
        BookExchange y = Setups.open();
        y.order(1, 3, true, 10, 1, 1);
        y.order(1, 0, true, 100, 1, 1);
        y.order(2, 1, false, 90, 1, 1);
        due("p27 alike to sell: way 0", y.way(3, false), 0);
        y.order(2, 1, false, 89, 1, 1);
        due("p27 greater to sell: way 1", y.way(3, false), 1);
        due("p28 its price to sell", y.wayPrice(3, false), 11);
    }

    private static void waysNeedOpenBooks() {
        BookExchange x = Setups.open();
        x.order(1, 0, false, 95, 1, 1);
        x.order(1, 3, false, 10, 1, 1);
        x.order(1, 1, false, 90, 1, 1);
        due("p27 way 0", x.way(0, true), 0);
        x.call(0);
        due("p27 not in a CALL, but by others", x.way(0, true), 1);
        x.shut(0);
        due("p27 whatever the book of the order itself is", x.wayPrice(0, true), 100);
        x.call(3);
        due("p27 none", x.way(0, true), BookExchange.NONE);
        x.uncross(3);
        x.shut(1);
        due("p27 each one is needed", x.wayPrice(0, true), BookExchange.NO_PRICE);
    }

    private static void wayOfSpreadMovesNoMark() {
        BookExchange x = Setups.open();
        Setups.trade(x, 4, 5, 2, 80, 1);
        x.order(1, 4, false, -7, 5, 5);
        x.now(0, 4, true, 0, 3);
        dueTrade(x, 1, 2, 1, 0, 80, 3);
        dueTrade(x, 2, 1, 0, 1, 73, 3);
        due("p30 no mark of the first contract", x.mark(1), 100);
        due("p30 nor of the second one", x.mark(2), 80);
        x.order(1, 4, true, 9, 5, 5);
        x.now(0, 4, false, 0, 2);
        dueTrade(x, 3, 2, 0, 1, 80, 2);
        dueTrade(x, 4, 1, 1, 0, 89, 2);
        due("p36 cash", x.cash(0), 3 * 80 - 3 * 73 - 2 * 80 + 2 * 89);
        due("p36 of the other one", x.cash(1), -x.cash(0));
    }

    private static void wayOfLegsMovesMarks() {
        BookExchange x = Setups.open();
        x.order(1, 0, false, 105, 3, 3);
        x.order(2, 1, true, 95, 2, 2);
        x.now(0, 3, true, 10, 1);
        due("p30 the way 1 of a spread moves marks", x.mark(0) * 1000 + x.mark(1), 105095);
    }

    private static void pricesBeyondTheRange() {
        BookExchange x = Setups.open();
        x.order(1, 3, false, -500, 2, 2);
        x.order(2, 1, false, 100, 2, 2);
        due("p28 below 1", x.wayPrice(0, true), -400);
        x.now(0, 0, true, 1, 1);
        dueTrade(x, 0, 0, 0, 1, -400, 1);
        dueTrade(x, 1, 1, 1, 2, 100, 1);
        due("p30 a mark below 1", x.mark(0), -400);
        due("p36 the buyer is paid", x.cash(0), 400);
        x.setBand(0, 600, 999);
        x.now(0, 0, true, 1, 1);
        due("p12 1000 away is farther than 999", x.phase(0), BookExchange.HALTED);
        due("p12 so nothing is traded", x.trades(), 2);
    }

    private static void sizeIsWhatAllShow() {
        BookExchange x = Setups.open();
        x.order(1, 3, false, 7, 9, 2);
        x.order(2, 1, false, 90, 9, 3);
        int behind = x.order(4, 1, false, 90, 1, 1);
        x.now(0, 0, true, 97, 6);
        due("p12 the first step by 2", x.trade(0, BookExchange.SIZE), 2);
        due("p12 the second one by 1, that is shown yet", x.trade(2, BookExchange.SIZE), 1);
        due("p12 the third one by 1, of the one behind", x.trade(4, BookExchange.SIZE), 1);
        due("p12 with that one", x.trade(5, BookExchange.SELLER), 4);
        due("p12 the fourth one by 2", x.trade(6, BookExchange.SIZE), 2);
        due("p12 that is all", x.trades(), 8);
        due("p23 left", x.left(0) * 100 + x.left(1) * 10 + x.left(behind), 340);
        due("p24 shows", x.shows(0) * 10 + x.shows(1), 21);
    }

    private static void ownLegsAreCancelled() {
        BookExchange x = Setups.open();
        int own = x.order(0, 3, false, 7, 9, 9);
        int other = x.order(2, 1, false, 90, 9, 9);
        int next = x.order(1, 3, false, 8, 1, 1);
        x.now(0, 0, true, 98, 3);
        due("p12 the leg of the member is CANCELLED", x.state(own), BookExchange.CANCELLED);
        due("p12 the other leg stays", x.left(other), 8);
        due("p12 and trades with the next one", x.state(next), BookExchange.DONE);
        int worse = x.order(3, 3, false, 20, 9, 9);
        x.now(3, 0, true, 98, 3);
        due("p12 what is worse than the order is not touched", x.state(worse), BookExchange.RESTING);
    }

    private static void haltOfTheOwnBook() {
        BookExchange x = Setups.open();
        x.setBand(0, 100, 3);
        x.order(1, 3, false, 7, 9, 9);
        x.order(2, 1, false, 97, 9, 9);
        x.order(0, 0, true, 200, 5, 5);
        due("p12 104 is too far", x.phase(0), BookExchange.HALTED);
        due("p12 nothing is traded", x.trades(), 0);
        due("p12 it rests in the HALTED book", x.best(0, true), 2);
        due("p12 other books stay", x.phase(1) + x.phase(3), 2 * BookExchange.OPEN);
        BookExchange y = Setups.open();
        y.setBand(0, 100, 10);
        y.order(1, 0, false, 50, 9, 9);
        y.order(2, 3, false, 5, 9, 9);
        y.order(3, 1, false, 90, 9, 9);
        y.order(0, 0, true, 99, 5, 5);
        due("p12 50 is too far", y.phase(0), BookExchange.HALTED);
        due("p12 so the matching ends, though the way 1 is at 95", y.trades(), 0);
    }

    private static void haltOfATakenBook() {
        BookExchange x = Setups.open();
        x.setBand(1, 100, 3);
        x.order(1, 3, false, 7, 9, 9);
        x.order(2, 1, false, 90, 9, 9);
        x.order(3, 0, false, 99, 2, 2);
        x.order(0, 0, true, 200, 5, 5);
        due("p12 the book 1 is HALTED", x.phase(1), BookExchange.HALTED);
        due("p12 the order goes on by other ways", x.trades(), 1);
        dueTrade(x, 0, 0, 0, 3, 99, 2);
        due("p12 and rests then", x.left(3), 3);
        due("p12 in a book that is OPEN", x.phase(0), BookExchange.OPEN);
        BookExchange y = Setups.open();
        y.setBand(0, 100, 5);
        y.order(1, 0, false, 106, 9, 9);
        y.order(2, 1, true, 100, 9, 9);
        y.order(3, 3, false, 8, 1, 1);
        y.now(0, 3, true, 8, 5);
        due("p12 by a spread the book 0 is HALTED", y.phase(0), BookExchange.HALTED);
        due("p12 and the way 0 goes on", y.state(2), BookExchange.DONE);
    }

    private static void haltOfABookBetween() {
        for (int phase = 0; phase < 3; phase++) {
            BookExchange x = Setups.open();
            if (phase == BookExchange.SHUT) {
                x.shut(1);
            }
            if (phase == BookExchange.CALL) {
                x.call(1);
            }
            x.setBand(1, 100, 3);
            x.order(1, 3, false, 10, 9, 9);
            x.order(2, 4, false, 2, 9, 9);
            x.order(3, 2, false, 90, 9, 9);
            x.order(4, 0, false, 150, 1, 1);
            x.order(0, 0, true, 200, 5, 5);
            due("p12 contract 1 at 92: its book is HALTED, whatever it was", x.phase(1), BookExchange.HALTED);
            due("p12 the matching ends, as it is none of those taken", x.trades(), 0);
            due("p12 so what is left rests", x.state(4), BookExchange.RESTING);
            due("p12 in the book that is OPEN", x.phase(0), BookExchange.OPEN);
            x.now(0, 0, true, 200, 5);
            due("p12 once more", x.trades(), 0);
        }
    }

    private static void haltOfTheLowest() {
        BookExchange x = Setups.open();
        for (int contract = 0; contract < 3; contract++) {
            x.setBand(contract, 500, 0);
        }
        x.order(1, 4, true, 6, 4, 4);
        x.order(3, 3, true, 11, 5, 5);
        x.order(4, 0, false, 110, 2, 2);
        x.order(5, 2, false, 200, 2, 2);
        x.now(0, 2, true, 300, 2);
        due("p12 way 2 is halted at contract 0, as the lowest", x.phase(0), BookExchange.HALTED);
        due("p12 then way 0 at its own", x.phase(2), BookExchange.HALTED);
        due("p12 contract 1 is not tried", x.phase(1), BookExchange.OPEN);
        BookExchange y = Setups.open();
        y.setBand(0, 100, 10);
        y.order(1, 0, false, 110, 2, 2);
        y.order(1, 0, false, 111, 2, 2);
        y.now(0, 0, true, 111, 4);
        due("p12 at the edge of the band it trades", y.left(0), 0);
        due("p12 beyond it is HALTED", y.phase(0), BookExchange.HALTED);
        due("p12 what is not traded stays", y.left(1), 2);
        due("p12 and the mark too", y.mark(0), 110);
    }

    private static void noHaltByWay0OfASpread() {
        BookExchange x = Setups.open();
        x.setBand(0, 500, 0);
        x.setBand(1, 500, 0);
        x.order(1, 3, false, 200, 2, 2);
        x.now(0, 3, true, 200, 2);
        due("p12 bands do not matter there", x.trades(), 2);
        due("p12 nor is a book HALTED", x.phase(0) + x.phase(1), 2 * BookExchange.OPEN);
    }

    private static void sharesRounded() {
        BookExchange x = Setups.open();
        x.setShares(2, true);
        int[] sizes = {5, 7, 3, 10, 1};
        for (int i = 0; i < 5; i++) {
            x.order(i, 2, false, 100, sizes[i], sizes[i]);
        }
        x.order(5, 2, true, 100, 15, 15);
        // 5, then 10 shared by 21: 3, 1, 4, 0 and two more in turn.
        int[] left = {0, 3, 1, 6, 1};
        for (int i = 0; i < 5; i++) {
            due("p12 left of order " + i, x.left(i), left[i]);
        }
        due("p12 who trades nothing has no trade", x.trades(), 4);
        dueTrade(x, 0, 2, 5, 0, 100, 5);
        dueTrade(x, 1, 2, 5, 1, 100, 4);
        dueTrade(x, 2, 2, 5, 2, 100, 2);
        dueTrade(x, 3, 2, 5, 3, 100, 4);
        BookExchange y = Setups.open();
        y.setShares(2, true);
        y.order(0, 2, true, 100, 5, 5);
        y.order(1, 2, true, 100, 5, 5);
        y.order(2, 2, true, 99, 5, 5);
        y.order(5, 2, false, 99, 4, 4);
        due("p12 less than the first one shows", y.left(0) * 10 + y.left(1), 15);
        y.order(5, 2, false, 99, 9, 9);
        due("p12 the best price alone, step by step", y.left(0) + y.left(1), 0);
        due("p12 then the next price", y.left(2), 2);
    }

    private static void sharesAndStamps() {
        BookExchange x = Setups.open();
        x.setShares(0, true);
        int first = x.order(0, 0, false, 100, 20, 2);
        int second = x.order(1, 0, false, 100, 20, 4);
        int third = x.order(2, 0, false, 100, 20, 4);
        x.now(5, 0, true, 100, 6);
        // 2, and then 4 of 8: 2 and 2; the first one shows anew, behind the others.
        due("p24 shown", x.shows(first) * 100 + x.shows(second) * 10 + x.shows(third), 222);
        due("p12 the first one goes behind", x.best(0, false), second);
        x.now(5, 0, true, 100, 6);
        due("p24 all shown anew", x.shows(first) * 100 + x.shows(second) * 10 + x.shows(third), 244);
        due("p12 in the order of their trades", x.best(0, false), second);
        due("p23 left", x.left(first) * 10000 + x.left(second) * 100 + x.left(third), 161616);
        x.now(5, 0, true, 100, 4);
        due("p12 the second one alone", x.left(second), 12);
        due("p12 then the third one", x.best(0, false), third);
    }

    private static void sharesAndOwnOrders() {
        BookExchange x = Setups.open();
        x.setShares(0, true);
        x.order(0, 0, false, 100, 4, 4);
        int own = x.order(5, 0, false, 100, 4, 4);
        x.order(2, 0, false, 100, 4, 4);
        int worse = x.order(5, 0, false, 101, 4, 4);
        x.now(5, 0, true, 100, 2);
        due("p12 own orders among those of the price are CANCELLED", x.state(own), BookExchange.CANCELLED);
        due("p12 not those of another price", x.state(worse), BookExchange.RESTING);
        due("p12 others trade", x.left(0), 2);
        BookExchange y = Setups.open();
        y.order(0, 0, false, 100, 4, 4);
        int behind = y.order(5, 0, false, 100, 4, 4);
        y.now(5, 0, true, 100, 2);
        due("p12 by time the best one alone is taken", y.state(behind), BookExchange.RESTING);
    }

    private static void sharesAndHalt() {
        BookExchange x = Setups.open();
        x.setShares(0, true);
        x.setBand(0, 100, 1);
        x.order(0, 0, false, 102, 4, 4);
        x.order(1, 0, false, 102, 4, 4);
        x.now(5, 0, true, 102, 2);
        due("p12 a halt by shares", x.phase(0), BookExchange.HALTED);
        due("p12 without a trade", x.trades(), 0);
    }

    private static void sharesOfASpread() {
        BookExchange x = Setups.open();
        x.setShares(3, true);
        x.setBand(0, 900, 0);
        x.order(0, 3, true, -20, 2, 2);
        x.order(1, 3, true, -20, 2, 2);
        x.order(5, 3, false, -30, 3, 3);
        due("p12 two trades each", x.trades(), 4);
        dueTrade(x, 0, 1, 5, 0, 100, 2);
        dueTrade(x, 1, 0, 0, 5, 80, 2);
        dueTrade(x, 2, 1, 5, 1, 100, 1);
        dueTrade(x, 3, 0, 1, 5, 80, 1);
    }

    private static void sharesOnlyByWay0() {
        BookExchange x = Setups.open();
        x.setShares(0, true);
        x.setShares(1, true);
        x.setShares(3, true);
        x.order(1, 3, false, 7, 1, 1);
        x.order(2, 1, false, 90, 4, 4);
        x.order(3, 1, false, 90, 4, 4);
        x.now(0, 0, true, 97, 3);
        due("p12 other ways take the best ones alone", x.left(1) * 10 + x.left(2), 34);
    }

    private static void matchingEndsAt1500Trades() {
        BookExchange x = Setups.open();
        for (int i = 0; i < 17; i++) {
            x.order(0, 0, false, 100, 100, 1);
            x.now(1, 0, true, 100, i == 14 ? 99 : 100);
        }
        due("p32 trades", x.trades(), 1500);
        due("p12 of the 16th order one is traded", x.left(31), 99);
        int last = x.orders() - 1;
        due("p13 the last one for now is CANCELLED", x.state(last), BookExchange.CANCELLED);
        due("p13 as it came", x.left(last), 100);
        int crossing = x.order(1, 0, true, 100, 5, 5);
        due("p12 an order rests, crossing", x.state(crossing), BookExchange.RESTING);
        x.order(1, 0, false, 99, 5, 5);
        due("p12 nor is one's own order CANCELLED", x.state(crossing), BookExchange.RESTING);
        x.call(0);
        due("p4 auctions trade on", x.uncross(0), 5);
        due("p32 beyond 1500", x.trades() > 1500, true);
        BookExchange y = Setups.open();
        for (int i = 0; i < 15; i++) {
            y.order(0, 0, false, 100, 100, 1);
            y.now(1, 0, true, 100, i == 14 ? 99 : 100);
        }
        due("p32 1499 trades", y.trades(), 1499);
        y.cancel(28);
        y.setShares(0, true);
        for (int i = 0; i < 4; i++) {
            y.order(2 + i, 0, false, 100, 2, 1);
        }
        y.now(1, 0, true, 100, 8);
        due("p12 the last step is made whole", y.trades(), 1503);
        due("p12 and is the last one", y.left(y.orders() - 1), 4);
    }
}
