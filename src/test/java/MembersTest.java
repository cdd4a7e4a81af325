/** Promises 7 to 11: calls on members. */
public final class MembersTest extends Shorthand {
    public static void main(String[] args) {
        deposit();
        depositAndNeed();
        depositOfOneWhoIsOut();
        setShare();
        setCapital();
        protect();
        setMove();
        Checks.end("MembersTest");
    }

    private static void deposit() {
        BookExchange x = new BookExchange();
        due("p7 deposit", x.deposit(0, 500), 500);
        due("p7 adds", x.deposit(0, 1000000), 1000500);
        due("p7 takes", x.deposit(0, -1000000), 500);
        due("p7 nothing", x.deposit(0, 0), 500);
        due("p7 funds", x.funds(0), 500);
        due("p7 another member", x.funds(1), 0);
        due("p7 cash is another thing", x.cash(0), 0);
        throwsIt("p7 below 0", STATE, () -> x.deposit(0, -501));
        due("p7 all of it", x.deposit(0, -500), 0);
        throwsIt("p7 member 6", INDEX, () -> x.deposit(6, 2000000));
        throwsIt("p7 member -1", INDEX, () -> x.deposit(-1, 0));
        throwsIt("p7 too much", ARGUMENT, () -> x.deposit(0, 1000001));
        throwsIt("p7 too little", ARGUMENT, () -> x.deposit(0, -1000001));
        for (int i = 0; i < 100; i++) {
            x.deposit(2, 1000000);
        }
        throwsIt("p7 above 100000000", STATE, () -> x.deposit(2, 1));
        due("p7 100000000", x.funds(2), 100000000);
    }

    private static void depositAndNeed() {
        BookExchange x = Setups.open();
        x.setMove(3, 0, -10);
        x.order(0, 0, true, 90, 5, 5);
        due("p7 the need", x.need(0), 50);
        due("p7 down to the need", x.deposit(0, 50 - 1000000), 50);
        throwsIt("p7 not below the need", STATE, () -> x.deposit(0, -1));
        x.setMove(3, 0, -100);
        due("p7 adding goes below the need too", x.deposit(0, 1), 51);
        due("p7 so does nothing", x.deposit(0, 0), 51);
        throwsIt("p7 taking does not", STATE, () -> x.deposit(0, -1));
        BookExchange y = Setups.open();
        Setups.trade(y, 0, 1, 0, 100, 10);
        Setups.trade(y, 2, 3, 0, 90, 1);
        due("p7 funds with a loss of 100", y.funds(0), 999900);
        throwsIt("p7 the loss stays", STATE, () -> y.deposit(0, -999901));
        due("p7 to funds of 0", y.deposit(0, -999900), 100);
        due("p7 gains are not collateral", y.funds(1), 1000100);
        throwsIt("p7 so they don't go", STATE, () -> y.deposit(1, -1000000) + y.deposit(1, -1));
    }

    private static void depositOfOneWhoIsOut() {
        BookExchange x = Setups.open();
        x.deposit(0, -1000000);
        x.order(0, 0, true, 100, 1, 1);
        x.now(1, 0, false, 100, 1);
        x.setMove(0, 0, -1);
        x.fail(0);
        throwsIt("p7 OUT", STATE, () -> x.deposit(0, 5));
        throwsIt("p8 OUT", STATE, () -> x.setShare(0, 5));
        throwsIt("p8 OUT, and a wrong share", ARGUMENT, () -> x.setShare(0, -1));
        due("p10 OUT is nothing to protect()", x.protect(0, 5), 0);
        throwsIt("p12 OUT", STATE, () -> x.order(0, 0, true, 100, 1, 1));
        throwsIt("p13 OUT", STATE, () -> x.now(0, 0, true, 100, 1));
        throwsIt("p14 OUT", STATE, () -> x.stop(0, 0, true, 100, 1, 100));
        throwsIt("p15 OUT", STATE, () -> x.quote(0, 0, 100, 101, 1));
        throwsIt("p17 OUT", STATE, () -> x.bust(0));
        throwsIt("p18 OUT", STATE, () -> x.bid(0, 1));
        throwsIt("p19 OUT", STATE, () -> x.fail(0));
    }

    private static void setShare() {
        BookExchange x = new BookExchange();
        due("p8 before", x.setShare(5, 1000000), 0);
        due("p8 then", x.setShare(5, 7), 1000000);
        due("p40 share", x.share(5), 7);
        due("p40 another one's", x.share(4), 0);
        due("p8 it is no fund of the member's", x.funds(5), 0);
        throwsIt("p8 member 6", INDEX, () -> x.setShare(6, -1));
        throwsIt("p8 member -1", INDEX, () -> x.setShare(-1, 0));
        throwsIt("p8 share -1", ARGUMENT, () -> x.setShare(5, -1));
        throwsIt("p8 share 1000001", ARGUMENT, () -> x.setShare(5, 1000001));
        due("p8 what throws changes nothing", x.setShare(5, 0), 7);
    }

    private static void setCapital() {
        BookExchange x = new BookExchange();
        due("p9 before", x.setCapital(1000000), 0);
        due("p9 then", x.setCapital(3), 1000000);
        due("p42 capital", x.capital(), 3);
        throwsIt("p9 -1", ARGUMENT, () -> x.setCapital(-1));
        throwsIt("p9 1000001", ARGUMENT, () -> x.setCapital(1000001));
        due("p9 what throws changes nothing", x.setCapital(0), 3);
    }

    private static void protect() {
        BookExchange x = Setups.open();
        due("p10 before", x.protect(1, 1000), 0);
        due("p10 then", x.protect(1, 2), 1000);
        due("p10 another one's", x.protect(2, 0), 0);
        x.quote(1, 0, 99, 101, 5);
        x.now(0, 0, true, 101, 2);
        due("p10 as much is not more", x.state(0), BookExchange.RESTING);
        x.now(0, 0, true, 101, 3);
        due("p10 more", x.state(0), BookExchange.CANCELLED);
        throwsIt("p10 member 6", INDEX, () -> x.protect(6, -1));
        throwsIt("p10 member -1", INDEX, () -> x.protect(-1, 0));
        throwsIt("p10 -1", ARGUMENT, () -> x.protect(1, -1));
        throwsIt("p10 1001", ARGUMENT, () -> x.protect(1, 1001));
        due("p10 what throws changes nothing", x.protect(1, 0), 2);
    }

    private static void setMove() {
        BookExchange x = Setups.open();
        Setups.trade(x, 0, 1, 2, 100, 3);
        due("p11 before", x.setMove(5, 2, -500), 0);
        due("p38 margin", x.margin(0), 1500);
        due("p38 of the other side", x.margin(1), 0);
        due("p11 then", x.setMove(5, 2, 500), -500);
        due("p38 margin then", x.margin(0), 0);
        due("p38 of the other side then", x.margin(1), 1500);
        due("p11 another scenario", x.setMove(0, 2, 0), 0);
        due("p11 another contract", x.setMove(5, 1, 0), 0);
        throwsIt("p11 scenario 6", INDEX, () -> x.setMove(6, 0, 0));
        throwsIt("p11 scenario -1", INDEX, () -> x.setMove(-1, 0, 0));
        throwsIt("p11 contract 3", INDEX, () -> x.setMove(0, 3, 501));
        throwsIt("p11 contract -1", INDEX, () -> x.setMove(0, -1, 0));
        throwsIt("p11 501", ARGUMENT, () -> x.setMove(0, 0, 501));
        throwsIt("p11 -501", ARGUMENT, () -> x.setMove(0, 0, -501));
        due("p11 what throws changes nothing", x.setMove(5, 2, 0), 500);
    }
}
