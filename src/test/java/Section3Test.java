/**
 * The bounds that 'Terms', section 3, names, sentence by sentence: NOTICES in net and APART: how many can be
 * given, to whom they are ASSIGNED, how they are CLOSED OUT, and how far a CHAIN goes.
 */
public final class Section3Test {
    private static final Due due = new Due();

    public static void main(String[] args) {
        sixtyApart();
        sixtyWithOneInNet();
        sharesOfTheOldLots();
        noneOpenYet();
        noneOpenInNet();
        assignedLotByLot();
        assignedInOrder();
        assignedAmongTwelve();
        assignedToEachAtMost();
        fewerOrNone();
        deliveredTakesOff();
        deliveredTakesOffThatIssue();
        closedAtMost();
        closedMemberByMember();
        outsideIsAdded();
        apartOpenAndDue();
        apartNoneOpen();
        apartSharesAreThoseOpen();
        apartOpenAtLeast();
        apartSomeOpen();
        chainOpenAtLeast();
        chainDue();
        chainOfThatSort();
        chainSellerNotYet();
        chainOfTheLeastDue();
        chainOfAll();
        due.end();
    }

    // "A NOTICE (60 at most, by numbers; OPEN or not)"

    private static void sixtyApart() {
        RollingNets x = Make.quick();
        for (int k = 0; k < 62; k++) {
            x.apart(k % 5, 5, 0, 1, 100);
        }
        x.night(1);
        due.is("none yet", x.look(8), 0);
        due.is("none yet", x.notice(0, 0), -1);
        for (int k = 0; k < 60; k++) {
            due.is("call", x.call(k), k);
        }
        due.is("the 61st", x.call(60), -1);
        due.is("look(8)", x.look(8), 60);
        due.is("look(9)", x.look(9), 60);
        due.is("the last one", x.notice(59, 5), 59);
        due.is("none behind it", x.notice(60, 5), -1);
        x.night(1);
        due.is("look(9)", x.look(9), 0);
        due.is("open or not", x.call(60), -1);
        due.is("look(8)", x.look(8), 60);
        due.is("all of them closed", x.look(10), 60);
    }

    private static void sixtyWithOneInNet() {
        RollingNets x = Make.quick();
        for (int k = 0; k < 60; k++) {
            x.apart(0, 5, 0, 1, 100);
        }
        x.trade(1, 4, 1, 5, 100);
        x.trade(2, 4, 1, 5, 100);
        x.night(1);
        for (int k = 0; k < 59; k++) {
            due.is("call", x.call(k), k);
        }
        due.is("the 60th", x.give(1, 1, 5), 59);
        due.is("the 61st in net", x.give(2, 1, 5), -1);
        due.is("the 61st apart", x.call(59), -1);
        due.is("look(8)", x.look(8), 60);
        x.night(1);
        due.is("open or not", x.give(2, 1, 5), -1);
    }

    // "TO GIVE one in net: SHARES 1 .. all its LONG LOTS of DAY less BUY AGE or ahead"

    private static void sharesOfTheOldLots() {
        // On DAY 3, LONG 10 of DAY 0, 5 of DAY 1, 3 of DAY 2.
        int[] most = {0, 18, 15, 10, 0};
        for (int age = 1; age <= 4; age++) {
            RollingNets x = Make.quick();
            x.set(3, age);
            int[] n = {10, 5, 3};
            for (int day = 0; day < 3; day++) {
                x.trade(0, 1, 0, n[day], 100);
                x.night(1);
            }
            due.is("0", x.give(0, 0, 0), -1);
            for (int v : Make.beyond(1, most[age])) {
                due.is("shares " + v + ", buy age " + age, x.give(0, 0, v), -1);
            }
            due.is("look(8)", x.look(8), 0);
            x.image(true);
            due.is("1, buy age " + age, x.give(0, 0, 1), age == 4 ? -1 : 0);
            due.is("shares", x.notice(0, 2), age == 4 ? -1 : 1);
            x.image(false);
            due.is("all, buy age " + age, x.give(0, 0, most[age]), age == 4 ? -1 : 0);
            due.is("shares", x.notice(0, 2), age == 4 ? -1 : most[age]);
        }
    }

    // "none OPEN of it in that ISSUE yet"

    private static void noneOpenYet() {
        RollingNets x = Make.quick();
        x.trade(0, 1, 0, 10, 100);
        x.trade(0, 1, 5, 10, 100);
        x.trade(2, 1, 0, 10, 100);
        x.night(1);
        due.is("the first", x.give(0, 0, 1), 0);
        for (int n = 1; n <= 10; n++) {
            due.is("another one", x.give(0, 0, n), -1);
        }
        due.is("in another issue", x.give(0, 5, 1), 1);
        due.is("of another member", x.give(2, 0, 1), 2);
        due.is("look(9)", x.look(9), 3);
        x.night(1);
        due.is("closed", x.look(9), 0);
        due.is("none is open: the next", x.give(0, 0, 1), 3);
        due.is("look(9)", x.look(9), 1);
        due.is("look(8)", x.look(8), 4);
    }

    /** One APART of the same MEMBER in the same ISSUE bars none in net, nor the other way round. */
    private static void noneOpenInNet() {
        for (int sort = 0; sort < 2; sort++) {
            RollingNets x = Make.quick();
            x.trade(0, 1, 0, 10, 100);
            x.apart(0, 1, 0, 10, 100);
            x.night(1);
            due.is("the first", sort == 0 ? x.give(0, 0, 10) : x.call(1), 0);
            due.is("the other", sort == 1 ? x.give(0, 0, 10) : x.call(1), 1);
            x.night(1);
            due.is("bought in", x.at(0, 0, 1), 20);
        }
    }

    // "It is ASSIGNED: of the SHORT LOTS of all, by the least DAY, then by the least MEMBER, LOT by LOT as many as
    // it has .., till all SHARES are ASSIGNED"

    private static void assignedLotByLot() {
        // SHORT: 2 has 5 of DAY 0 and 7 of DAY 1, 1 has 4 of DAY 1, 3 has 6 of DAY 0.
        for (int n = 1; n <= 22; n++) {
            RollingNets x = Make.quick();
            x.trade(0, 3, 0, 6, 100);
            x.trade(0, 2, 0, 5, 100);
            x.night(1);
            x.trade(0, 2, 0, 7, 100);
            x.trade(0, 1, 0, 4, 100);
            x.night(1);
            due.is("give", x.give(0, 0, n), 0);
            int second = Math.min(5, n) + Math.max(0, Math.min(7, n - 15));
            int third = Math.max(0, Math.min(6, n - 5));
            int first = Math.max(0, Math.min(4, n - 11));
            due.notice(x, 0, 0, 0, n, 2, 1, -1, 0, 0, first, second, third, 0, 0);
        }
    }

    private static void assignedInOrder() {
        int[][] all = {{1, 2}, {2, 1}, {3, 4}, {4, 3}};
        for (int[] one : all) {
            RollingNets x = Make.quick();
            x.trade(0, one[0], 0, 5, 100);
            x.night(1);
            x.trade(0, one[1], 0, 5, 100);
            x.night(1);
            due.is("give", x.give(0, 0, 6), 0);
            due.is("the older", x.notice(0, 10 + one[0]), 5);
            due.is("the younger", x.notice(0, 10 + one[1]), 1);
            RollingNets y = Make.quick();
            y.trade(0, one[0], 0, 5, 100);
            y.trade(0, one[1], 0, 5, 100);
            y.night(1);
            due.is("give", y.give(0, 0, 6), 0);
            due.is("of one day: the least", y.notice(0, 10 + Math.min(one[0], one[1])), 5);
            due.is("then the other", y.notice(0, 10 + Math.max(one[0], one[1])), 1);
        }
    }

    /** Each NOTICE anew: what one before it has ASSIGNED in another ISSUE is not in it. */
    private static void assignedAmongTwelve() {
        for (int one = 2; one < 12; one++) {
            RollingNets x = Make.quick();
            x.set(0, 12);
            int other = one == 11 ? 2 : one + 1;
            x.trade(0, one, 0, 5, 100);
            x.trade(1, other, 1, 9, 100);
            x.trade(1, one, 2, 7, 100);
            x.night(1);
            due.is("give", x.give(0, 0, 5), 0);
            due.is("give in another issue", x.give(1, 1, 9), 1);
            due.is("give in a third", x.give(1, 2, 7), 2);
            for (int k = 0; k < 12; k++) {
                due.is("the first to " + k, x.notice(0, 10 + k), k == one ? 5 : 0);
                due.is("the second to " + k, x.notice(1, 10 + k), k == other ? 9 : 0);
                due.is("the third to " + k, x.notice(2, 10 + k), k == one ? 7 : 0);
            }
            due.is("shares", x.notice(2, 2), 7);
        }
    }

    // "of a MEMBER in all not more than its SHORT less what OPEN NOTICES of the ISSUE have ASSIGNED to it yet"

    /** 1 is SHORT 15 of DAY 0 and 10 of DAY 1; so many of them an OPEN NOTICE of 2 has, which waits no more. */
    private static RollingNets someAssigned(int assigned) {
        RollingNets x = Make.quick();
        x.set(4, 5);
        x.trade(2, 1, 0, 5, 100);
        x.trade(0, 1, 0, 10, 100);
        x.night(1);
        x.trade(0, 1, 0, 10, 100);
        x.night(1);
        if (assigned > 0) {
            due.is("give", x.give(2, 0, assigned), 0);
        }
        x.trade(0, 2, 0, 5, 100);
        x.night(1);
        due.lots(x, 1, 0, 0, -15, 1, -10);
        due.is("0 waits for all", x.at(0, 0, 0), 25);
        return x;
    }

    private static void assignedToEachAtMost() {
        for (int assigned = 0; assigned <= 5; assigned++) {
            for (int n = 18; n <= 25; n++) {
                RollingNets x = someAssigned(assigned);
                int number = assigned > 0 ? 1 : 0;
                due.is("give", x.give(0, 0, n), number);
                int want = Math.min(n, 25 - assigned);
                due.is("shares of " + n + ", " + assigned + " assigned", x.notice(number, 2), want);
                due.is("assigned to 1", x.notice(number, 11), want);
            }
        }
        // What a notice that is not open any more had assigned counts nothing, nor does one of another issue.
        RollingNets x = someAssigned(5);
        x.night(5);
        due.is("closed", x.notice(0, 4), 0);
        due.is("stays told", x.notice(0, 11), 5);
        due.is("give", x.give(0, 0, 25), 1);
        due.is("shares", x.notice(1, 2), 25);
        RollingNets y = someAssigned(0);
        y.trade(3, 1, 1, 9, 100);
        y.night(1);
        due.is("give in the other issue", y.give(3, 1, 9), 0);
        due.is("give", y.give(0, 0, 25), 1);
        due.is("shares", y.notice(1, 2), 25);
    }

    // "(fewer, if there are no more: SHARES are these; none: it can't be given ..)"

    private static void fewerOrNone() {
        for (int left = 0; left <= 3; left++) {
            RollingNets x = Make.quick();
            x.set(4, 5);
            x.trade(2, 1, 0, 3, 100);
            x.trade(0, 1, 0, 10, 100);
            x.night(1);
            due.is("give", x.give(2, 0, 3), 0);
            // 2 sells what it waits for: 3 waits for it now.
            x.trade(3, 2, 0, 3, 100);
            x.night(1);
            due.is("give", x.give(0, 0, 10 - left), 1);
            due.is("shares", x.notice(1, 2), 10 - left);
            due.is("give, " + left + " left", x.give(3, 0, 3), left == 0 ? -1 : 2);
            due.is("shares", x.notice(2, 2), left == 0 ? -1 : left);
            due.is("assigned to 1", x.notice(2, 11), left == 0 ? -1 : left);
            due.is("look(8)", x.look(8), left == 0 ? 2 : 3);
            due.is("look(9)", x.look(9), left == 0 ? 2 : 3);
        }
    }

    // "What a MEMBER delivers in (b) takes off what is ASSIGNED to it, NOTICE by NOTICE, by number."

    private static void deliveredTakesOff() {
        for (int n = 0; n <= 12; n++) {
            RollingNets x = Make.quick();
            x.set(4, 5);
            x.trade(0, 1, 0, 10, 100);
            x.trade(2, 1, 0, 10, 100);
            x.trade(3, 4, 0, 10, 100);
            x.night(1);
            due.is("give", x.give(0, 0, 4), 0);
            due.is("give", x.give(2, 0, 6), 1);
            due.is("give", x.give(3, 0, 10), 2);
            // All that is left of 1 is assigned to the third, it being as old as 4 is and of less number.
            due.is("third", x.notice(2, 11), 10);
            x.tell(1, 0, 0, n);
            x.night(1);
            int second = Math.min(6, Math.max(0, n - 4));
            due.is("first, delivered " + n, x.notice(0, 11), 4 - Math.min(4, n));
            due.is("second, delivered " + n, x.notice(1, 11), 6 - second);
            due.is("third, delivered " + n, x.notice(2, 11), 10 - Math.max(0, n - 10));
            due.is("shares stay", x.notice(0, 2) + x.notice(1, 2) + x.notice(2, 2), 20);
        }
    }

    private static void deliveredTakesOffThatIssue() {
        RollingNets x = Make.quick();
        x.set(4, 5);
        for (int issue = 0; issue < 2; issue++) {
            x.trade(0, 1, issue, 10, 100);
            x.trade(0, 2, issue, 10, 100);
        }
        x.night(1);
        due.is("give", x.give(0, 0, 20), 0);
        due.is("give", x.give(0, 1, 20), 1);
        x.tell(1, 1, 0, 10);
        x.night(1);
        due.is("another issue", x.notice(0, 11), 10);
        due.is("delivered", x.notice(1, 11), 0);
        due.is("another member", x.notice(1, 12), 10);
        // Of one that is not open any more nothing is taken off: what is assigned stays told.
        RollingNets y = Make.quick();
        y.set(2, 9);
        y.trade(0, 1, 0, 10, 100);
        y.trade(2, 1, 0, 10, 100);
        y.night(1);
        due.is("give", y.give(0, 0, 6), 0);
        y.night(1);
        due.is("closed", y.notice(0, 4), 0);
        due.is("bought in", y.notice(0, 6), 6);
        y.set(4, 1);
        due.is("give", y.give(2, 0, 8), 1);
        y.tell(1, 0, 0, 3);
        y.night(1);
        due.is("stays told", y.notice(0, 11), 6);
        due.is("taken off the open one", y.notice(1, 11), 5);
    }

    // "x is that, its SHORT, what the giver has LONG, at most (each as it is then) ..(x 0: nothing; what is ASSIGNED
    // stays told). Then it is not OPEN any more."

    private static void closedAtMost() {
        int[] some = {0, 1, 6, 7, 8, 20};
        for (int assigned = 1; assigned <= 20; assigned += assigned == 1 ? 6 : 13) {
            for (int isShort : some) {
                for (int isLong : some) {
                    closedAtMost(assigned, isShort, isLong);
                }
            }
        }
    }

    private static void closedAtMost(int assigned, int isShort, int isLong) {
        RollingNets x = Make.quick();
        x.trade(0, 1, 0, 20, 100);
        x.night(1);
        due.is("give", x.give(0, 0, assigned), 0);
        x.trade(1, 3, 0, 20 - isShort, 100);
        x.trade(4, 0, 0, 20 - isLong, 100);
        x.night(1);
        int n = Math.min(assigned, Math.min(isShort, isLong));
        String when = "assigned " + assigned + ", short " + isShort + ", long " + isLong + ": ";
        due.is(when + "bought in", x.notice(0, 6), n);
        due.is(when + "open", x.notice(0, 4), 0);
        due.is(when + "shares", x.notice(0, 2), assigned);
        due.is(when + "assigned stays", x.notice(0, 11), assigned);
        due.is(when + "long", x.at(0, 0, 0), isLong - n);
        due.is(when + "short", x.at(1, 0, 0), n - isShort);
        due.is(when + "stock", x.at(0, 0, 1), n);
        due.is(when + "cash of the giver", x.cash(0), -100 * n);
        due.is(when + "cash of the other", x.cash(1), -10 * n);
        due.is(when + "outside", x.look(11), 110 * n);
        due.is(when + "lines", x.look(10), n == 0 ? 0 : 1);
        due.is(when + "look(9)", x.look(9), 0);
        if (n > 0) {
            due.line(x, 0, 1, 4, 0, 1, 0, n);
        }
    }

    // "MEMBER by MEMBER, by number, to whom anything is ASSIGNED yet"

    private static void closedMemberByMember() {
        for (int isLong = 0; isLong <= 12; isLong++) {
            RollingNets x = Make.quick();
            x.trade(0, 3, 0, 4, 100);
            x.trade(0, 1, 0, 4, 100);
            x.trade(0, 2, 0, 4, 100);
            x.night(1);
            due.is("give", x.give(0, 0, 12), 0);
            x.trade(4, 0, 0, 12 - isLong, 100);
            x.night(1);
            int lines = 0;
            for (int k = 1; k <= 3; k++) {
                int n = Math.max(0, Math.min(4, isLong - 4 * (k - 1)));
                due.is("short is " + k + ", long " + isLong, x.at(k, 0, 0), n - 4);
                due.is("bought in", x.statement(k, 4, false), n);
                lines += n > 0 ? 1 : 0;
            }
            due.is("bought in", x.notice(0, 6), isLong);
            due.is("lines", x.look(10), lines);
        }
        // Of the giver's lots, and of the other's, from the first on.
        RollingNets x = Make.quick();
        x.trade(0, 1, 0, 4, 100);
        x.night(1);
        x.trade(0, 1, 0, 5, 100);
        x.night(1);
        due.is("give", x.give(0, 0, 6), 0);
        x.night(1);
        due.lots(x, 0, 0, 1, 3);
        due.lots(x, 1, 0, 1, -3);
    }

    // "OUTSIDE is what was paid by BUY PRICE in all."

    private static void outsideIsAdded() {
        RollingNets x = Make.quick();
        x.trade(0, 1, 0, 4, 100);
        x.trade(0, 1, 1, 4, 100);
        x.apart(2, 3, 0, 4, 100);
        x.night(1);
        due.is("nothing yet", x.look(11), 0);
        x.give(0, 0, 1);
        x.give(0, 1, 2);
        x.call(2);
        x.night(1);
        due.is("all three", x.look(11), 7 * 110);
        x.give(0, 0, 3);
        x.night(1);
        due.is("and a fourth", x.look(11), 10 * 110);
        due.is("all cash", x.look(12), -10 * 110);
    }

    // "TO GIVE one APART: for a TRADE APART, OPEN, DUE at least BUY AGE DAYS ago"

    private static void apartOpenAndDue() {
        RollingNets x = new RollingNets();
        x.set(1, 1);
        x.set(3, 2);
        x.trade(0, 1, 0, 10, 100);
        x.apart(0, 1, 0, 10, 100);
        x.apart(2, 3, 0, 10, 100);
        x.tell(3, 0, 0, 10);
        due.is("not due", x.call(1), -1);
        x.night(1);
        due.is("due today", x.call(1), -1);
        x.night(1);
        due.is("due a day ago", x.call(1), -1);
        x.night(1);
        due.is("due two days ago", x.call(1), 0);
        due.is("not apart", x.call(0), -1);
        due.is("done", x.deal(2, 7), 0);
        due.is("not open", x.call(2), -1);
        for (int far : Make.beyond(0, 2)) {
            due.is("none such", x.call(far), -1);
        }
        due.is("look(8)", x.look(8), 1);
    }

    // "for which none is OPEN"

    private static void apartNoneOpen() {
        RollingNets x = Make.quick();
        x.set(4, 2);
        x.apart(0, 1, 0, 10, 100);
        x.apart(0, 1, 0, 10, 100);
        x.night(1);
        due.is("call", x.call(0), 0);
        due.is("another one", x.call(0), -1);
        due.is("for another trade", x.call(1), 1);
        due.is("another one", x.call(1), -1);
        due.is("another one", x.call(0), -1);
        due.notice(x, 0, 0, 0, 10, 3, 1, 0, 0, 0, 0, 0, 0, 0, 0);
        due.notice(x, 1, 0, 0, 10, 3, 1, 1, 0, 0, 0, 0, 0, 0, 0);
        x.night(2);
        due.is("open yet", x.call(0), -1);
        x.night(1);
        due.is("closed", x.look(9), 0);
        due.is("done", x.call(0), -1);
    }

    // "SHARES are those OPEN of it" and "CLOSING it OUT (if the TRADE has as many OPEN yet, at least; else nothing) ..
    // Then it is not OPEN any more."

    private static void apartSharesAreThoseOpen() {
        for (int more = 0; more <= 5; more++) {
            RollingNets x = Make.quick();
            x.apart(0, 1, 0, 10, 100);
            x.apart(1, 2, 0, 10 + more, 100);
            x.night(1);
            due.is("call", x.call(0), 0);
            x.night(1);
            due.is("open", x.deal(1, 7), more);
            due.is("call", x.call(1), more == 0 ? -1 : 1);
            due.is("shares", x.notice(1, 2), more == 0 ? -1 : more);
            x.night(1);
            due.is("bought in", x.notice(1, 6), more == 0 ? -1 : more);
            due.is("open", x.deal(1, 7), 0);
            due.is("stock of 0", x.at(0, 0, 1), 10);
            due.is("stock of 1", x.at(1, 0, 1), more);
            due.is("outside", x.look(11), 110 * (10 + more));
        }
    }

    /** What is OPEN yet is passed on, too, and by so many SHARES the CHAIN is laid. */
    private static void apartSomeOpen() {
        RollingNets x = Make.quick();
        x.apart(0, 1, 0, 10, 100);
        x.apart(1, 2, 0, 15, 100);
        x.apart(2, 3, 0, 5, 100);
        x.night(1);
        reaches("all 15", x, 1, 2, 1);
        due.is("call", x.call(0), 0);
        x.night(1);
        due.is("open", x.deal(1, 7), 5);
        due.is("shares stay told", x.deal(1, 3), 15);
        reaches("the five", x, 1, 3, 2);
        x.tell(2, 0, 0, 4);
        x.night(1);
        due.is("one too few", x.deal(1, 7), 5);
        x.tell(2, 0, 0, 5);
        x.night(1);
        due.is("passed on", x.deal(1, 7), 0);
        due.is("stock", x.at(1, 0, 1), 5);
        due.line(x, 1, 3, 3, 0, 2, 1, 5);
    }

    private static void apartOpenAtLeast() {
        for (int taken = 0; taken <= 3; taken++) {
            RollingNets x = Make.quick();
            if (taken > 0) {
                x.apart(0, 1, 0, taken, 100);
            } else {
                x.apart(0, 3, 0, 1, 100);
            }
            x.apart(1, 2, 0, 10, 100);
            x.night(1);
            x.set(4, 1);
            due.is("call", x.call(1), 0);
            x.set(4, 0);
            due.is("call", x.call(0), 1);
            x.night(1);
            due.is("open", x.deal(1, 7), 10 - taken);
            int lines = x.look(10);
            x.night(1);
            boolean is = taken == 0;
            due.is("bought in, " + taken + " taken", x.notice(0, 6), is ? 10 : 0);
            due.is("closed", x.notice(0, 4), 0);
            due.is("open", x.deal(1, 7), is ? 0 : 10 - taken);
            due.is("lines", x.look(10), is ? lines + 1 : lines);
            due.is("stock of 1", x.at(1, 0, 1), is ? 10 : 0);
            due.is("look(9)", x.look(9), 0);
            // Of a closed one nothing bars the next: for those that are open yet.
            due.is("another one", x.call(1), is ? -1 : 2);
            due.is("shares", x.notice(2, 2), is ? -1 : 10 - taken);
        }
    }

    // "has that one, as BUYER, a TRADE APART of that ISSUE, OPEN with SHARES at least, DUE on d or ahead"

    private static void reaches(String when, RollingNets x, int trade, int last, int trades) {
        due.is(when + ": the last", x.reached(trade, 0), last);
        due.is(when + ": trades", x.reached(trade, 1), trades);
    }

    private static void chainOpenAtLeast() {
        for (int n = 8; n <= 12; n++) {
            RollingNets x = Make.quick();
            x.apart(0, 1, 0, 10, 100);
            x.apart(1, 2, 0, n, 100);
            reaches("10, then " + n, x, 0, n >= 10 ? 2 : 1, n >= 10 ? 2 : 1);
            x.night(1);
            x.call(0);
            x.night(1);
            due.is("open of the second", x.deal(1, 7), n >= 10 ? n - 10 : n);
            due.line(x, 0, 1, 4, 0, n >= 10 ? 2 : 1, 0, 10);
            due.is("cash of 1", x.cash(1), n >= 10 ? 0 : -100);
            due.is("cash of 2", x.cash(2), n >= 10 ? -100 : 0);
        }
    }

    private static void chainDue() {
        for (int lag = 0; lag <= 3; lag++) {
            for (int day = 0; day <= 4; day++) {
                RollingNets x = Make.noLag();
                x.apart(0, 1, 0, 10, 100);
                x.set(1, lag);
                x.apart(1, 2, 0, 10, 100);
                Make.nights(x, day);
                boolean is = lag <= day;
                reaches("due on " + lag + ", day " + day, x, 0, is ? 2 : 1, is ? 2 : 1);
            }
        }
        // In the NIGHT of the DAY that it is DUE it is in the CHAIN.
        RollingNets x = Make.quick();
        x.apart(0, 1, 0, 10, 100);
        x.night(1);
        x.call(0);
        x.apart(1, 2, 0, 10, 100);
        x.night(1);
        due.line(x, 0, 1, 4, 0, 2, 0, 10);
        RollingNets y = Make.quick();
        y.apart(0, 1, 0, 10, 100);
        y.night(1);
        y.call(0);
        y.set(1, 1);
        y.apart(1, 2, 0, 10, 100);
        y.night(1);
        due.line(y, 0, 1, 4, 0, 1, 0, 10);
    }

    private static void chainOfThatSort() {
        RollingNets x = Make.quick();
        x.apart(0, 1, 2, 10, 100);
        x.apart(1, 2, 1, 10, 100);
        x.apart(1, 2, 3, 10, 100);
        reaches("of another issue", x, 0, 1, 1);
        x.trade(1, 2, 2, 10, 100);
        reaches("not apart", x, 0, 1, 1);
        x.apart(2, 3, 2, 10, 100);
        reaches("of another buyer", x, 0, 1, 1);
        x.apart(1, 2, 2, 10, 100);
        reaches("of all that", x, 0, 3, 3);
        RollingNets y = Make.quick();
        for (int k = 0; k < 3; k++) {
            y.apart(k, k + 1, 2, 10, 100);
        }
        y.tell(3, 2, 0, 10);
        for (int open = 3; open > 0; open--) {
            reaches(open + " are open", y, 0, open, open);
            y.night(1);
            due.is("passed on", y.deal(open - 1, 7), 0);
        }
        reaches("it is done itself", y, 0, -1, -1);
    }

    // "whose SELLER is not in the CHAIN yet (the first BUYER, too, is in it)"

    private static void chainSellerNotYet() {
        RollingNets x = Make.quick();
        x.apart(0, 1, 0, 10, 100);
        x.apart(1, 0, 0, 10, 100);
        reaches("the first buyer", x, 0, 1, 1);
        x.apart(1, 2, 0, 10, 100);
        x.apart(2, 0, 0, 10, 100);
        x.apart(2, 1, 0, 10, 100);
        reaches("the first buyer, one that is in it", x, 0, 2, 2);
        x.apart(2, 3, 0, 10, 100);
        x.apart(3, 1, 0, 10, 100);
        x.apart(3, 2, 0, 10, 100);
        x.apart(3, 0, 0, 10, 100);
        reaches("all that are in it", x, 0, 3, 3);
        x.night(1);
        x.call(0);
        x.night(1);
        due.line(x, 0, 1, 4, 0, 3, 0, 10);
        int[] open = {0, 10, 0, 10, 10, 0, 10, 10, 10};
        for (int trade = 0; trade < open.length; trade++) {
            due.is("open of " + trade, x.deal(trade, 7), open[trade]);
        }
    }

    // "that of the least DUE, then number: it goes on from its SELLER; else that one is the LAST."

    private static void chainOfTheLeastDue() {
        for (int first = 0; first <= 2; first++) {
            for (int second = 0; second <= 2; second++) {
                for (int third = 0; third <= 2; third++) {
                    RollingNets x = Make.noLag();
                    int[] lags = {first, second, third};
                    x.apart(0, 1, 0, 10, 100);
                    int want = 2;
                    for (int k = 0; k < 3; k++) {
                        x.set(1, lags[k]);
                        x.apart(1, 2 + k, 0, 10, 100);
                        want = lags[k] < lags[want - 2] ? 2 + k : want;
                    }
                    x.night(2);
                    reaches("due on " + first + ", " + second + ", " + third, x, 0, want, 2);
                }
            }
        }
    }

    /** As long as one can be: all MEMBERS are in it. */
    private static void chainOfAll() {
        RollingNets x = Make.quick();
        x.set(0, 12);
        for (int k = 0; k < 11; k++) {
            x.apart(k, k + 1, 0, 10, 100 + k);
        }
        x.apart(11, 0, 0, 10, 100);
        for (int k = 0; k < 11; k++) {
            reaches("from " + k, x, k, k == 0 ? 11 : k - 1, 11);
        }
        reaches("from the last", x, 11, 10, 11);
        x.night(1);
        x.call(0);
        x.night(1);
        due.line(x, 0, 1, 4, 0, 11, 0, 10);
        due.is("one line", x.look(10), 1);
        due.is("cash of the first", x.cash(0), -1000);
        for (int k = 1; k < 11; k++) {
            due.is("cash of " + k, x.cash(k), -10);
            due.is("open", x.deal(k, 7), 0);
        }
        due.is("cash of the last", x.cash(11), 1100 - 1100);
        due.is("outside", x.look(11), 1100);
        due.is("not in it", x.deal(11, 7), 10);
        // With two members it goes on to none.
        RollingNets y = Make.quick();
        y.set(0, 2);
        y.apart(0, 1, 0, 10, 100);
        y.apart(1, 0, 0, 10, 100);
        reaches("of two", y, 0, 1, 1);
        reaches("of two", y, 1, 0, 1);
    }
}
