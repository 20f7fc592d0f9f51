/** Promises 7, 12, 22, 26 and 31: nights, step by step, dividends, fails, cash, the book and its statements. */
public final class NightTest {
    private static final Due due = new Due();

    public static void main(String[] args) {
        counts();
        netting();
        lotsOfBothSorts();
        lotsOfOneDay();
        delivering();
        deliveringOrder();
        suspendedDoNotDeliver();
        allottingByAge();
        allottingByRank();
        allottingSuspendedLast();
        allottingNoticedFirst();
        allottedIsGivenBack();
        loans();
        loanLenders();
        loanOrder();
        borrowerLends();
        apartAllOrNone();
        apartByNumber();
        deliveredToMemberZero();
        marks();
        dividends();
        dividendOfThoseThere();
        fails();
        failsFee();
        issuesApart();
        bookIsFull();
        bookWrong();
        statements();
        cashOfNobody();
        due.end();
    }

    private static RollingNets noLag() {
        RollingNets x = new RollingNets();
        x.set(1, 0);
        return x;
    }

    private static void counts() {
        RollingNets x = new RollingNets();
        due.is("night(0)", x.night(0), -1);
        due.is("night(-1)", x.night(-1), -1);
        due.is("night(21)", x.night(21), -1);
        due.is("night(MAX)", x.night(Integer.MAX_VALUE), -1);
        due.is("day", x.look(6), 0);
        due.is("night(1)", x.night(1), 1);
        due.is("day", x.look(6), 1);
        due.is("night(20)", x.night(20), 20);
        due.is("day", x.look(6), 21);
        for (int k = 0; k < 3; k++) {
            x.night(20);
        }
        due.is("night(19)", x.night(18), 18);
        due.is("day 99", x.look(6), 99);
        due.is("night(1) on day 99", x.night(1), -1);
        due.is("night(20) on day 99", x.night(20), -1);

        RollingNets y = new RollingNets();
        for (int k = 0; k < 4; k++) {
            y.night(20);
        }
        y.night(15);
        due.is("fewer at day 99", y.night(20), 4);
        due.is("day 99", y.look(6), 99);
    }

    private static void netting() {
        RollingNets x = new RollingNets();
        x.price(0, 110);
        x.trade(0, 1, 0, 10, 90);
        x.trade(2, 0, 0, 4, 95);
        x.set(1, 3);
        x.trade(0, 1, 0, 100, 95);
        x.night(2);
        due.is("not due", x.at(0, 0, 0), 0);
        due.is("no cash", x.cash(0), 0);
        due.is("open", x.look(15), 114);
        x.night(1);
        // MARKED is 110 then: 10 times 20 to the buyer, 4 times 15 to the next.
        due.lots(x, 0, 0, 2, 6);
        due.lots(x, 1, 0, 2, -10);
        due.lots(x, 2, 0, 2, 4);
        due.is("cash of 0", x.cash(0), 200 - 60);
        due.is("cash of 1", x.cash(1), -200);
        due.is("cash of 2", x.cash(2), 60);
        due.is("open", x.look(15), 100);
        due.is("open of 0", x.deal(0, 7), 0);
        due.is("open of 2", x.deal(2, 7), 100);
        x.night(1);
        due.lots(x, 0, 0, 2, 6, 3, 100);
        due.lots(x, 1, 0, 2, -10, 3, -100);
    }

    /** What is added to get takes off what is to be delivered, from the first lot on. */
    private static void lotsOfBothSorts() {
        RollingNets x = noLag();
        x.trade(0, 1, 0, 10, 100);
        x.night(1);
        x.trade(0, 1, 0, 20, 100);
        x.night(1);
        x.trade(0, 1, 0, 30, 100);
        x.night(1);
        due.lots(x, 0, 0, 0, 10, 1, 20, 2, 30);
        due.lots(x, 1, 0, 0, -10, 1, -20, 2, -30);
        x.trade(1, 0, 0, 15, 100);
        x.night(1);
        due.lots(x, 0, 0, 1, 15, 2, 30);
        due.lots(x, 1, 0, 1, -15, 2, -30);
        x.trade(1, 2, 0, 45, 100);
        x.night(1);
        due.lots(x, 1, 0);
        due.lots(x, 2, 0, 4, -45);
        x.trade(3, 0, 0, 50, 100);
        x.night(1);
        due.lots(x, 0, 0, 5, -5);
        due.lots(x, 3, 0, 5, 50);
        due.is("first lot", x.at(0, 0, 7), 5);
        due.is("first lot", x.at(1, 0, 7), -1);
    }

    private static void lotsOfOneDay() {
        RollingNets x = noLag();
        x.trade(0, 1, 0, 10, 100);
        x.trade(0, 2, 0, 5, 100);
        x.night(1);
        due.lots(x, 0, 0, 0, 15);
        // Bought and sold on one day: over what there was, the rest is of that day.
        x.trade(3, 0, 0, 20, 100);
        x.trade(0, 3, 0, 7, 100);
        x.night(1);
        due.lots(x, 0, 0, 1, 2);
        due.lots(x, 3, 0, 1, 13);
        due.lots(x, 1, 0, 0, -10);
    }

    private static void delivering() {
        RollingNets x = noLag();
        x.trade(0, 1, 5, 100, 100);
        x.tell(1, 5, 0, 45);
        x.tell(1, 5, 1, 5);
        x.night(1);
        due.line(x, 0, 0, 0, 5, 1, -1, 40);
        due.line(x, 1, 0, 1, 5, -1, 0, 40);
        due.is("two lines", x.look(10), 2);
        due.is("stock left", x.at(1, 5, 1), 5);
        due.is("stock come", x.at(0, 5, 1), 40);
        due.is("cash", x.cash(1), 4000);
        due.is("cash", x.cash(0), -4000);
        due.lots(x, 1, 5, 0, -60);
        due.lots(x, 0, 5, 0, 60);
        x.night(1);
        due.is("nothing free: no line", x.look(10), 2);
        x.tell(1, 5, 0, 1000);
        x.night(1);
        due.is("no more than is short", x.at(1, 5, 1), 940);
        due.line(x, 2, 2, 0, 5, 1, -1, 60);
        due.line(x, 3, 2, 1, 5, -1, 0, 60);
        due.lots(x, 0, 5);
        due.is("never more than bought", x.at(0, 5, 1), 100);
        x.night(1);
        due.is("no lots: no line", x.look(10), 4);
    }

    /** By the day of the first lot, then by number. */
    private static void deliveringOrder() {
        RollingNets x = noLag();
        x.trade(0, 4, 0, 5, 100);
        x.night(1);
        x.trade(0, 3, 0, 6, 100);
        x.trade(0, 1, 0, 7, 100);
        x.trade(0, 4, 0, 50, 100);
        x.night(1);
        for (int member = 1; member < 5; member++) {
            x.tell(member, 0, 0, 20);
        }
        x.night(1);
        due.line(x, 0, 2, 0, 0, 4, -1, 20);
        due.line(x, 1, 2, 0, 0, 1, -1, 7);
        due.line(x, 2, 2, 0, 0, 3, -1, 6);
        due.line(x, 3, 2, 1, 0, -1, 0, 5);
        due.line(x, 4, 2, 1, 0, -1, 0, 28);
        due.is("five lines", x.look(10), 5);
        due.lots(x, 4, 0, 1, -35);
        due.lots(x, 0, 0, 1, 35);
    }

    private static void suspendedDoNotDeliver() {
        RollingNets x = noLag();
        x.trade(0, 1, 0, 5, 100);
        x.apart(2, 1, 0, 4, 100);
        x.tell(1, 0, 0, 20);
        x.suspend(1, true);
        x.night(1);
        due.is("no line", x.look(10), 0);
        due.is("stock stays", x.at(1, 0, 1), 20);
        due.lots(x, 1, 0, 0, -5);
        x.suspend(1, false);
        x.night(1);
        due.is("stock gone", x.at(1, 0, 1), 11);
        due.line(x, 2, 1, 3, 0, 1, 2, 4);
    }

    private static void allottingByAge() {
        RollingNets x = noLag();
        x.set(2, 9);
        x.trade(3, 5, 0, 10, 100);
        x.night(1);
        x.trade(2, 5, 0, 10, 100);
        x.trade(1, 5, 0, 10, 100);
        x.night(1);
        x.trade(3, 5, 0, 10, 100);
        x.trade(0, 5, 0, 10, 100);
        x.tell(5, 0, 0, 47);
        x.night(1);
        due.line(x, 0, 2, 0, 0, 5, -1, 47);
        due.line(x, 1, 2, 1, 0, -1, 3, 10);
        due.line(x, 2, 2, 1, 0, -1, 1, 10);
        due.line(x, 3, 2, 1, 0, -1, 2, 10);
        due.line(x, 4, 2, 1, 0, -1, 0, 10);
        due.line(x, 5, 2, 1, 0, -1, 3, 7);
        due.lots(x, 3, 0, 2, 3);
        due.lots(x, 0, 0);
    }

    private static void allottingByRank() {
        RollingNets x = noLag();
        x.tell(3, 0, 3, 9);
        x.tell(2, 0, 3, 4);
        x.tell(4, 0, 3, 4);
        for (int member = 0; member < 5; member++) {
            x.trade(member, 5, 0, 10, 100);
        }
        x.tell(5, 0, 0, 45);
        x.night(1);
        int[] order = {3, 2, 4, 0, 1};
        for (int k = 0; k < 5; k++) {
            due.is("allotted", x.book(1 + k, 4), order[k]);
        }
        due.lots(x, 1, 0, 0, 5);
        // Age goes ahead of rank.
        x.trade(3, 5, 0, 10, 100);
        x.tell(5, 0, 0, 6);
        x.night(1);
        due.line(x, 7, 1, 1, 0, -1, 1, 5);
        due.line(x, 8, 1, 1, 0, -1, 3, 1);
    }

    private static void allottingSuspendedLast() {
        RollingNets x = noLag();
        x.set(2, 9);
        x.trade(0, 5, 0, 10, 100);
        x.night(1);
        x.trade(1, 5, 0, 10, 100);
        x.suspend(0, true);
        x.tell(0, 0, 3, 9);
        x.tell(5, 0, 0, 14);
        x.night(1);
        due.line(x, 1, 1, 1, 0, -1, 1, 10);
        due.line(x, 2, 1, 1, 0, -1, 0, 4);
        due.is("served, though suspended", x.at(0, 0, 1), 4);
        // Even a notice brings the suspended no further.
        x.night(3);
        x.trade(1, 5, 0, 10, 100);
        due.is("give", x.give(0, 0, 6), 0);
        x.tell(5, 0, 0, 11);
        x.night(1);
        due.line(x, 4, 5, 1, 0, -1, 1, 10);
        due.line(x, 5, 5, 1, 0, -1, 0, 1);
    }

    private static void allottingNoticedFirst() {
        RollingNets x = noLag();
        x.set(2, 9);
        x.set(4, 5);
        x.trade(0, 5, 0, 10, 100);
        x.night(1);
        x.trade(4, 5, 0, 10, 100);
        x.apart(3, 5, 0, 10, 100);
        x.trade(3, 5, 0, 10, 100);
        x.night(1);
        x.trade(4, 5, 0, 5, 100);
        x.night(3);
        due.is("give", x.give(4, 0, 1), 0);
        due.is("a notice apart", x.call(2), 1);
        x.tell(5, 0, 0, 22);
        x.night(1);
        // 4 has a notice in net: all its lots go first; the notice apart brings 3 nothing.
        due.line(x, 0, 5, 0, 0, 5, -1, 22);
        due.line(x, 1, 5, 1, 0, -1, 4, 10);
        due.line(x, 2, 5, 1, 0, -1, 4, 5);
        due.line(x, 3, 5, 1, 0, -1, 0, 7);
        // In another issue the notice counts nothing.
        x.trade(0, 5, 1, 5, 100);
        x.trade(4, 5, 1, 5, 100);
        x.tell(5, 1, 0, 1);
        x.night(1);
        due.line(x, 5, 6, 1, 1, -1, 0, 1);
    }

    private static void allottedIsGivenBack() {
        RollingNets x = noLag();
        x.trade(0, 1, 0, 10, 100);
        x.tell(2, 0, 0, 9);
        x.tell(2, 0, 2, 9);
        x.night(3);
        due.is("lent", x.at(2, 0, 5), 9);
        x.tell(1, 0, 0, 5);
        x.night(1);
        // The oldest, 0 with one share of day 0, is served first; the lender gets four back.
        due.is("given back", x.at(2, 0, 5), 5);
        due.is("stock", x.at(2, 0, 1), 4);
        x.trade(2, 3, 0, 20, 100);
        x.tell(3, 0, 0, 20);
        x.tell(1, 0, 0, 5);
        x.night(1);
        due.is("not below 0", x.at(2, 0, 5), 0);
        due.is("stock", x.at(2, 0, 1), 29);
    }

    private static void loans() {
        RollingNets x = noLag();
        x.set(2, 3);
        x.trade(0, 1, 0, 10, 100);
        x.price(0, 120);
        x.tell(2, 0, 0, 50);
        x.tell(2, 0, 1, 10);
        x.tell(2, 0, 2, 4);
        x.night(3);
        due.is("not old enough", x.look(10), 0);
        due.is("could lend", x.at(2, 0, 8), 4);
        x.night(1);
        due.line(x, 0, 3, 2, 0, 2, 0, 4);
        due.is("stock of the lender", x.at(2, 0, 1), 46);
        due.is("stock of the borrower", x.at(0, 0, 1), 4);
        due.is("lent", x.at(2, 0, 5), 4);
        due.is("could lend no more", x.at(2, 0, 8), 0);
        due.is("cash of the lender", x.cash(2), 480);
        due.is("cash of the borrower", x.cash(0), -480 + 200);
        due.lots(x, 2, 0, 3, 4);
        due.lots(x, 0, 0, 0, 6);
        due.lots(x, 1, 0, 0, -10);
        x.tell(2, 0, 2, 7);
        due.is("could lend the rest", x.at(2, 0, 8), 3);
        x.night(1);
        due.line(x, 1, 4, 2, 0, 2, 0, 3);
        due.lots(x, 2, 0, 3, 4, 4, 3);
        x.tell(2, 0, 2, 2);
        due.is("lent beyond what it lends", x.at(2, 0, 8), 0);
        x.tell(2, 0, 2, 100);
        due.is("free bounds it", x.at(2, 0, 8), 33);
        x.night(1);
        due.line(x, 2, 5, 2, 0, 2, 0, 3);
        due.lots(x, 0, 0);
        // The lender's own lots are old one day: none else lends, and it never lends to itself.
        x.night(9);
        due.is("no more loans", x.look(10), 3);
    }

    private static void loanLenders() {
        RollingNets x = noLag();
        x.set(2, 1);
        x.trade(0, 5, 0, 100, 100);
        x.night(1);
        x.tell(5, 0, 1, 99999);
        int[] stock = {0, 10, 30, 30, 50, 90};
        for (int member = 1; member < 6; member++) {
            x.tell(member, 0, 0, stock[member]);
            x.tell(member, 0, 2, 99);
        }
        x.tell(4, 0, 2, 20);
        x.tell(1, 0, 1, 1);
        due.is("who is short can't lend", x.at(5, 0, 8), 0);
        x.suspend(3, true);
        x.night(1);
        due.line(x, 0, 1, 2, 0, 2, 0, 30);
        due.line(x, 1, 1, 2, 0, 4, 0, 20);
        due.line(x, 2, 1, 2, 0, 1, 0, 9);
        due.is("three loans", x.look(10), 3);
        due.lots(x, 0, 0, 0, 41);
        x.suspend(3, false);
        x.tell(2, 0, 0, 30);
        x.tell(2, 0, 2, 60);
        x.night(1);
        // Both can lend 30: 0 gets from 2 first, then 11 from 3.
        due.line(x, 3, 2, 2, 0, 2, 0, 30);
        due.line(x, 4, 2, 2, 0, 3, 0, 11);
        due.lots(x, 0, 0);
        // 1, 2 and 4 wait, too, since day 1: 3 has 19 left for them; then 1 lends the 9 that it has just borrowed.
        due.line(x, 5, 2, 2, 0, 3, 1, 9);
        due.line(x, 6, 2, 2, 0, 3, 2, 10);
        due.line(x, 7, 2, 2, 0, 1, 2, 9);
        due.is("eight loans", x.look(10), 8);
    }

    private static void loanOrder() {
        RollingNets x = noLag();
        x.set(2, 2);
        x.trade(2, 5, 0, 10, 100);
        x.trade(3, 5, 0, 10, 100);
        x.night(1);
        x.trade(1, 5, 0, 10, 100);
        x.night(1);
        x.tell(3, 0, 3, 1);
        x.suspend(2, true);
        x.tell(4, 0, 0, 100);
        x.tell(4, 0, 2, 13);
        x.night(1);
        // Only lots of day 0 are old enough; the suspended one comes last, and is served.
        due.line(x, 0, 2, 2, 0, 4, 3, 10);
        due.line(x, 1, 2, 2, 0, 4, 2, 3);
        due.is("two loans", x.look(10), 2);
        x.tell(4, 0, 2, 24);
        x.night(1);
        due.line(x, 2, 3, 2, 0, 4, 1, 10);
        due.line(x, 3, 3, 2, 0, 4, 2, 1);
        due.lots(x, 4, 0, 2, 13, 3, 11);
    }

    /** Who has just borrowed can lend to a later lot, even of one whose earlier lot found no lender. */
    private static void borrowerLends() {
        RollingNets x = noLag();
        x.set(2, 1);
        x.trade(0, 5, 0, 10, 100);
        x.night(1);
        x.trade(1, 5, 0, 10, 100);
        x.night(1);
        x.trade(0, 5, 0, 10, 100);
        x.night(1);
        x.tell(1, 0, 2, 50);
        x.tell(0, 0, 0, 6);
        x.tell(0, 0, 2, 6);
        x.night(1);
        // The lot of day 0 finds none to lend (0 never lends to itself); that of day 1 borrows 6 from 0,
        // and with these 1 lends to 0's lot of day 2.
        due.line(x, 0, 3, 2, 0, 0, 1, 6);
        due.line(x, 1, 3, 2, 0, 1, 0, 6);
        due.is("two loans", x.look(10), 2);
        due.lots(x, 0, 0, 0, 10, 2, 4, 3, 6);
        due.lots(x, 1, 0, 1, 4, 3, 6);
        due.is("lent by 0", x.at(0, 0, 5), 6);
        due.is("lent by 1", x.at(1, 0, 5), 6);
        due.is("stock of 0", x.at(0, 0, 1), 6);
        due.is("stock of 1", x.at(1, 0, 1), 0);
        due.is("cash of 0", x.cash(0), 0);
    }

    private static void apartAllOrNone() {
        RollingNets x = noLag();
        x.apart(0, 1, 0, 10, 70);
        x.tell(1, 0, 0, 9);
        x.price(0, 250);
        x.night(2);
        due.is("none", x.deal(0, 7), 10);
        due.is("no cash", x.cash(1), 0);
        x.tell(1, 0, 0, 12);
        x.tell(1, 0, 1, 3);
        x.night(1);
        due.is("none: not free", x.deal(0, 7), 10);
        x.tell(1, 0, 1, 2);
        x.night(1);
        due.is("all", x.deal(0, 7), 0);
        due.is("shares stay told", x.deal(0, 3), 10);
        due.line(x, 0, 3, 3, 0, 1, 0, 10);
        due.is("cash by the trade's price", x.cash(0), -700);
        due.is("cash by the trade's price", x.cash(1), 700);
        due.is("stock", x.at(0, 0, 1), 10);
        due.is("stock", x.at(1, 0, 1), 2);
        due.is("no lots", x.at(0, 0, 6), 0);
        x.set(1, 3);
        x.apart(1, 0, 0, 10, 70);
        x.night(3);
        due.is("not due", x.deal(1, 7), 10);
        x.night(1);
        due.is("due", x.deal(1, 7), 0);
    }

    private static void apartByNumber() {
        RollingNets x = noLag();
        x.apart(0, 1, 0, 10, 100);
        x.apart(1, 2, 0, 10, 100);
        x.apart(3, 0, 0, 4, 100);
        x.apart(4, 2, 0, 4, 100);
        x.apart(2, 5, 1, 4, 100);
        x.tell(2, 0, 0, 13);
        x.night(1);
        // 0 comes ahead of 1, which has nothing yet; 1 is done, 2 has nothing to pass on, 3 finds 3 left.
        due.is("trade 0", x.deal(0, 7), 10);
        due.is("trade 1", x.deal(1, 7), 0);
        due.is("trade 2", x.deal(2, 7), 4);
        due.is("trade 3", x.deal(3, 7), 4);
        x.night(1);
        due.is("trade 0", x.deal(0, 7), 0);
        due.is("trade 2: passed on the same night", x.deal(2, 7), 0);
        due.is("stock of 0", x.at(0, 0, 1), 6);
        due.is("of another issue", x.deal(4, 7), 4);
        x.tell(2, 0, 0, 4);
        x.tell(4, 0, 0, 3);
        x.night(1);
        due.is("trade 3", x.deal(3, 7), 0);
        due.is("stock comes to what there is", x.at(4, 0, 1), 7);
    }

    private static void deliveredToMemberZero() {
        RollingNets x = noLag();
        x.trade(1, 0, 0, 5, 100);
        x.tell(0, 0, 0, 3);
        x.dividend(0, 2);
        x.set(6, 100);
        x.night(1);
        due.is("0 has delivered", x.at(0, 0, 0), -2);
        due.is("0 fails", x.at(0, 0, 9), 1);
        // 3 at 100, the dividend on two that it owes, a fee of 2 * 100 * 100 / 10000.
        due.is("cash of 0", x.cash(0), 300 - 4 - 2);
        due.is("cash of 1", x.cash(1), -300 + 10);
    }

    private static void marks() {
        RollingNets x = noLag();
        x.trade(0, 1, 0, 10, 100);
        x.price(0, 130);
        x.night(1);
        due.is("long gains", x.cash(0), 300);
        due.is("short loses", x.cash(1), -300);
        due.is("marked", x.issue(0, 1), 130);
        x.night(1);
        due.is("no change", x.cash(0), 300);
        x.price(0, 60);
        x.price(0, 90);
        x.night(1);
        due.is("the latest price alone", x.cash(0), -100);
        due.is("nought in all", x.look(12), 0);
        x.tell(1, 0, 0, 10);
        x.night(1);
        due.is("paid at marked", x.cash(0), -1000);
        due.is("had at marked", x.cash(1), 1000);
    }

    private static void dividends() {
        RollingNets x = noLag();
        due.is("dividend(0, 99)", x.dividend(0, 99), true);
        due.is("dividend(0, 100)", x.dividend(0, 100), false);
        due.is("dividend(0, -1)", x.dividend(0, -1), false);
        due.is("dividend(-1, 1)", x.dividend(-1, 1), false);
        due.is("dividend(6, 1)", x.dividend(6, 1), false);
        due.is("the latest told", x.dividend(0, 3), true);
        due.is("of another", x.dividend(5, 2), true);
        x.trade(0, 1, 0, 10, 100);
        x.tell(1, 0, 0, 4);
        x.tell(2, 0, 0, 7);
        x.tell(3, 5, 0, 11);
        x.night(1);
        // 0 has 4 and is to get 6; 1 owes 6; 2 has 7; 3 has 11 of the other issue.
        due.is("cash of 0", x.cash(0), -400 + 30);
        due.is("cash of 1", x.cash(1), 400 - 18);
        due.is("cash of 2", x.cash(2), 21);
        due.is("cash of 3", x.cash(3), 22);
        due.is("outside", x.look(11), -3 * 11 - 2 * 11);
        due.is("all cash", x.look(12), 3 * 11 + 2 * 11);
        x.night(1);
        due.is("then 0", x.cash(2), 21);
        due.is("outside", x.look(11), -55);
        x.dividend(0, 5);
        due.is("dividend(0, 0)", x.dividend(0, 0), true);
        x.night(1);
        due.is("told 0", x.cash(2), 21);
    }

    private static void dividendOfThoseThere() {
        RollingNets x = new RollingNets();
        x.tell(5, 0, 0, 10);
        x.tell(1, 0, 0, 10);
        x.set(0, 5);
        x.dividend(0, 2);
        x.night(1);
        due.is("outside", x.look(11), -20);
        x.set(0, 6);
        due.is("who was not there has none", x.cash(5), 0);
        x.dividend(0, 2);
        x.night(1);
        due.is("who is there", x.cash(5), 20);
        x.set(0, 2);
        due.is("cash of one not there", x.cash(5), 0);
        due.is("all cash, of those not there too", x.look(12), 60);
    }

    private static void fails() {
        RollingNets x = noLag();
        x.trade(0, 1, 0, 10, 100);
        x.trade(0, 1, 3, 10, 100);
        x.tell(1, 3, 0, 10);
        x.night(4);
        due.is("fails", x.at(1, 0, 9), 4);
        due.is("the buyer fails not", x.at(0, 0, 9), 0);
        due.is("delivered: none", x.at(1, 3, 9), 0);
        due.is("rate 0: no cash", x.look(11), 0);
        x.tell(1, 0, 0, 4);
        x.night(1);
        due.is("short still", x.at(1, 0, 9), 5);
        x.tell(1, 0, 0, 6);
        x.night(1);
        due.is("delivered", x.at(1, 0, 9), 5);
    }

    private static void failsFee() {
        RollingNets x = noLag();
        x.set(6, 33);
        x.price(0, 77);
        x.trade(0, 1, 0, 13, 77);
        x.trade(0, 2, 0, 1, 77);
        x.night(1);
        // By the day's price: 13 * 77 * 33 / 10000 is 3.3, cut to 3; 1 * 77 * 33 / 10000 is cut to 0.
        due.is("cash of 1", x.cash(1), -3);
        due.is("cash of 2", x.cash(2), 0);
        due.is("fails of 2", x.at(2, 0, 9), 1);
        due.is("outside", x.look(11), 3);
        due.is("cash of the buyer", x.cash(0), 0);
        x.set(6, 100);
        x.price(0, 200);
        x.dividend(0, 1);
        x.night(1);
        due.is("marked, dividend, then the fee", x.cash(1), -3 - 13 * 123 - 13 - 26);
        due.is("outside", x.look(11), 3 + 26 + 2);
    }

    private static void issuesApart() {
        RollingNets x = noLag();
        x.trade(0, 1, 5, 10, 100);
        x.trade(1, 0, 2, 10, 100);
        x.tell(1, 5, 0, 10);
        x.tell(0, 2, 0, 10);
        x.night(1);
        // Issue by issue, each from (a) to (g).
        due.line(x, 0, 0, 0, 2, 0, -1, 10);
        due.line(x, 1, 0, 1, 2, -1, 1, 10);
        due.line(x, 2, 0, 0, 5, 1, -1, 10);
        due.line(x, 3, 0, 1, 5, -1, 0, 10);
    }

    private static void bookIsFull() {
        RollingNets x = noLag();
        for (int k = 0; k < 80; k++) {
            x.trade(0, 1, k % 6, 1 + k, 100);
        }
        for (int k = 0; k < 6; k++) {
            x.tell(1, k, 0, 99999);
        }
        x.night(1);
        due.is("lines", x.look(10), 12);
        for (int k = 0; k < 25; k++) {
            for (int issue = 0; issue < 6; issue++) {
                x.tell(k % 2, issue, 0, 500);
                if (k < 19) {
                    x.trade(1 - k % 2, k % 2, issue, 5, 100);
                }
            }
            x.night(1);
        }
        due.is("lines", x.look(10), 12 * 20);
        x.set(1, 0);
        int trades = x.look(7);
        due.is("trades", trades, 194);
        x.trade(0, 1, 0, 7, 100);
        x.trade(2, 1, 0, 7, 100);
        x.trade(3, 1, 0, 7, 100);
        x.trade(4, 1, 0, 7, 100);
        x.trade(5, 1, 0, 7, 100);
        x.tell(1, 0, 0, 0);
        x.night(1);
        for (int day = 0; day < 16; day++) {
            x.tell(1, 0, 0, 2);
            x.night(1);
        }
        // A share-out goes over from one lot to the next on the 4th night and on the 11th.
        due.is("lines", x.look(10), 240 + 2 * 16 + 2);
        x.trade(1, 0, 5, 70, 100);
        for (int day = 0; day < 20; day++) {
            x.tell(0, 5, 0, 1);
            x.night(1);
        }
        due.is("300 lines", x.look(10), 300);
        due.is("its last line", x.book(299, 0) >= 0, true);
        due.is("no line 300", x.book(300, 0), -1);
        due.is("what moved moved", x.at(1, 5, 1), 520);
    }

    private static void bookWrong() {
        RollingNets x = noLag();
        x.apart(3, 4, 5, 6, 7);
        x.tell(4, 5, 0, 6);
        x.night(2);
        due.line(x, 0, 0, 3, 5, 4, 3, 6);
        due.is("book(0, 6)", x.book(0, 6), -1);
        due.is("book(0, -1)", x.book(0, -1), -1);
        due.is("book(1, 0)", x.book(1, 0), -1);
        due.is("book(-1, 0)", x.book(-1, 0), -1);
        due.is("book(MAX, MIN)", x.book(Integer.MAX_VALUE, Integer.MIN_VALUE), -1);
    }

    private static void statements() {
        RollingNets x = noLag();
        x.trade(0, 1, 0, 10, 100);
        x.trade(0, 1, 1, 20, 100);
        x.apart(2, 3, 0, 5, 100);
        x.apart(2, 3, 1, 6, 100);
        x.tell(1, 0, 0, 8);
        x.tell(1, 1, 0, 9);
        x.tell(3, 0, 0, 5);
        x.tell(3, 1, 0, 6);
        x.tell(4, 0, 0, 1);
        x.tell(4, 0, 2, 1);
        x.night(3);
        due.is("1 delivered", x.statement(1, 0, false), 17);
        due.is("nobody has it from the pool by 0", x.statement(0, 0, true), 0);
        due.is("0 was allotted", x.statement(0, 1, true), 17);
        due.is("from none", x.statement(1, 1, false), 0);
        due.is("4 lent", x.statement(4, 2, false), 1);
        due.is("0 borrowed", x.statement(0, 2, true), 1);
        due.is("3 gave apart", x.statement(3, 3, false), 11);
        due.is("2 got apart", x.statement(2, 3, true), 11);
        due.is("2 gave none", x.statement(2, 3, false), 0);
        x.give(0, 1, 11);
        x.night(2);
        due.is("1 was bought in", x.statement(1, 4, false), 11);
        due.is("0 got it", x.statement(0, 4, true), 11);
        due.is("what below", x.statement(0, -1, true), -1);
        due.is("what beyond", x.statement(0, 5, true), -1);
        due.is("nobody", x.statement(6, 0, true), -1);
        due.is("nobody", x.statement(-1, 0, false), -1);
    }

    private static void cashOfNobody() {
        RollingNets x = noLag();
        due.is("cash(6)", x.cash(6), 0);
        due.is("cash(-1)", x.cash(-1), 0);
        due.is("cash(MAX)", x.cash(Integer.MAX_VALUE), 0);
        // More than an int holds.
        for (int k = 0; k < 60; k++) {
            x.apart(0, 1, 0, 9999, 9999);
        }
        for (int k = 0; k < 10; k++) {
            x.tell(1, 0, 0, 60000);
            x.night(1);
        }
        due.is("cash of 1", x.cash(1), 60L * 9999 * 9999);
        due.is("cash of 0", x.cash(0), -60L * 9999 * 9999);
    }
}
