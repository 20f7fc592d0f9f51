/**
 * The bounds that 'Terms', section 1, names, sentence by sentence: of MEMBERS and ISSUES, of what is told of
 * them, of a TRADE, of LOTS. Each has the last value that can be, the first that can't, and what it brings.
 */
public final class Section1Test {
    private static final Due due = new Due();

    public static void main(String[] args) {
        membersAtFirst();
        membersTold();
        askedOfTwelve();
        membersWhileThereIsNoTrade();
        toldStays();
        notThereIsNotTold();
        issues();
        dayAtFirst();
        priceBounds();
        priceAtItsBounds();
        markedIsOfTheLatestMark();
        numbersAtFirst();
        rankBounds();
        rankAtFirst();
        free();
        suspendedHasNoneFree();
        settingsAtFirst();
        settingBounds();
        lag();
        loanAge();
        buyAgeInNet();
        buyAgeApart();
        grace();
        premium();
        rate();
        twoHundredTrades();
        tradesOfUnlike();
        tradeBounds();
        dueAsTheyAreThen();
        openAtFirst();
        lotsTakenOff(true);
        lotsTakenOff(false);
        lotsComeBehind();
        position();
        due.end();
    }

    // "MEMBERS 0 .. m less 1 (m 6 at first; ..."

    private static void membersAtFirst() {
        RollingNets x = new RollingNets();
        due.is("m at first", x.look(0), 6);
        due.is("member 0", x.tell(0, 0, 0, 1), true);
        due.is("member 5", x.tell(5, 0, 0, 1), true);
        due.is("member 6", x.tell(6, 0, 0, 1), false);
        due.is("member -1", x.tell(-1, 0, 0, 1), false);
    }

    // "... 2 .. 12 can be told ..."

    private static void membersTold() {
        for (int m = 2; m <= 12; m++) {
            RollingNets x = new RollingNets();
            due.is("set(0, " + m + ")", x.set(0, m), true);
            due.is("look(0)", x.look(0), m);
            due.is("the last one", x.tell(m - 1, 0, 0, m), true);
            due.is("the last one", x.at(m - 1, 0, 1), m);
            due.is("one more", x.tell(m, 0, 0, m), false);
            due.is("one more", x.at(m, 0, 1), Make.NOTHING);
            due.is("one more buys", x.trade(m, 0, 0, 1, 1), -1);
            due.is("one more sells", x.apart(0, m, 0, 1, 1), -1);
            due.is("the last one buys", x.trade(m - 1, 0, 0, 1, 1), 0);
            due.is("the last one sells", x.apart(0, m - 1, 0, 1, 1), 1);
        }
        RollingNets x = new RollingNets();
        for (int v : Make.beyond(2, 12)) {
            due.is("set(0, " + v + ")", x.set(0, v), false);
            due.is("look(0)", x.look(0), 6);
        }
    }

    /** With all twelve there, what is asked of all of them has the last one, too, and ends with it. */
    private static void askedOfTwelve() {
        RollingNets x = Make.noLag();
        x.set(0, 12);
        for (int k = 0; k < 6; k++) {
            x.trade(k, k + 6, 0, 10 + k, 100);
        }
        x.tell(0, 0, 0, 3);
        x.tell(11, 0, 0, 4);
        x.tell(11, 0, 1, 4);
        x.night(1);
        due.is("all long", x.issue(0, 2), 75);
        due.is("all short", x.issue(0, 3), 75);
        due.is("all stock", x.issue(0, 4), 7);
        due.is("the eldest lot", x.issue(0, 5), 0);
        due.is("no lot", x.issue(1, 5), -1);
        due.is("short of a day", x.aged(0, 1), 75);
        due.is("short of two days", x.aged(0, 2), 0);
        due.is("who have short lots", x.look(18), 4032);
        due.is("who lack", x.look(16), 12);
        due.is("demand of the last long one", x.margin(5, 0), 150);
        due.is("demand of the last one", x.margin(11, 0), 225);
        due.is("none is below 0", x.stress(0), 0);
        due.is("the short ones", x.stress(1), 4032);
        due.is("the long ones", x.stress(-1), 63);
        x.collateral(11, 225);
        due.is("who lack but the last one", x.look(16), 11);
        due.is("the short ones but the last one", x.stress(1), 1984);
        x.suspend(11, true);
        due.is("suspended", x.look(17), 2048);
        due.is("long lots", x.queue(0, -1, 0), 6);
        due.is("the last of them", x.queue(0, 5, 2), 15);
        due.is("ahead of it", x.ahead(5, 0), 60);
        due.is("ahead of none", x.ahead(11, 0), -1);
    }

    // "... while there is no TRADE; ..."

    private static void membersWhileThereIsNoTrade() {
        RollingNets x = new RollingNets();
        due.is("refused", x.trade(0, 0, 0, 1, 1), -1);
        due.is("refused", x.apart(0, 6, 0, 1, 1), -1);
        due.is("no trade came of it", x.set(0, 12), true);
        x.image(true);
        for (int sort = 0; sort < 2; sort++) {
            due.is("a trade", sort == 0 ? x.trade(0, 1, 0, 1, 1) : x.apart(0, 1, 0, 1, 1), 0);
            for (int m = 1; m <= 13; m++) {
                due.is("set(0, " + m + ") with a trade", x.set(0, m), false);
            }
            due.is("look(0)", x.look(0), 12);
            due.is("the others can be told", x.set(1, 0), true);
            x.image(false);
            due.is("none any more", x.set(0, 2), true);
            due.is("look(0)", x.look(0), 2);
            x.image(false);
        }
        RollingNets y = Make.noLag();
        y.trade(0, 1, 0, 1, 1);
        y.tell(1, 0, 0, 1);
        y.night(1);
        due.is("done", y.deal(0, 7), 0);
        due.is("no lots", y.at(0, 0, 6) + y.at(1, 0, 6), 0);
        due.is("done or not, there is one", y.set(0, 6), false);
    }

    // "... what was told of a MEMBER stays, there or not)."

    private static void toldStays() {
        RollingNets x = new RollingNets();
        x.set(0, 12);
        int[] v = {40, 30, 20};
        for (int what = 0; what < 3; what++) {
            x.tell(11, 0, what, v[what]);
            x.tell(11, 5, what, v[what] + 1);
        }
        x.tell(11, 0, 3, 9);
        x.suspend(11, true);
        x.collateral(11, 9999999);
        x.dividend(0, 2);
        x.night(1);
        due.is("set(0, 11)", x.set(0, 11), true);
        due.is("not there", x.at(11, 0, 1), Make.NOTHING);
        due.is("not there", x.cash(11), 0);
        due.is("not there", x.margin(11, 1), -1);
        due.is("not there", x.look(17), 0);
        due.is("not there", x.issue(0, 4), 0);
        due.is("all cash, of it, too", x.look(12), 80);
        due.is("set(0, 12)", x.set(0, 12), true);
        int[] at = {1, 3, 4};
        for (int what = 0; what < 3; what++) {
            due.is("there again, what " + what, x.at(11, 0, at[what]), v[what]);
            due.is("of the last issue, too", x.at(11, 5, at[what]), v[what] + 1);
        }
        due.is("suspended", x.look(17), 1 << 11);
        due.is("collateral", x.margin(11, 1), 9999999);
        due.is("cash", x.cash(11), 80);
        x.suspend(11, false);
        due.is("free", x.at(11, 0, 2), 10);
        x.set(1, 0);
        x.trade(10, 0, 1, 5, 100);
        x.trade(11, 0, 1, 5, 100);
        x.night(1);
        due.is("its rank", x.queue(1, 0, 0), 11);
    }

    private static void notThereIsNotTold() {
        RollingNets x = new RollingNets();
        x.set(0, 12);
        x.tell(11, 0, 0, 40);
        x.set(0, 11);
        due.is("tell", x.tell(11, 0, 0, 1), false);
        due.is("suspend", x.suspend(11, true), false);
        due.is("collateral", x.collateral(11, 1), false);
        due.is("move from it", x.move(11, 0, 0, 1), false);
        due.is("move to it", x.move(0, 11, 0, 1), false);
        x.dividend(0, 9);
        x.split(0, 2);
        x.night(1);
        x.set(0, 12);
        due.is("as it was", x.at(11, 0, 1), 40);
        due.is("as it was", x.at(11, 0, 2), 40);
        due.is("as it was", x.margin(11, 1), 0);
        due.is("as it was", x.cash(11), 0);
    }

    // "ISSUES 0 .. 5."

    private static void issues() {
        RollingNets x = Make.noLag();
        for (int issue = 0; issue <= 5; issue++) {
            due.is("price", x.price(issue, 100 + issue), true);
            due.is("trade", x.trade(0, 1, issue, 1 + issue, 100 + issue), issue);
        }
        for (int issue : Make.beyond(0, 5)) {
            due.is("price of issue " + issue, x.price(issue, 1), false);
            due.is("trade of issue " + issue, x.trade(0, 1, issue, 1, 1), -1);
        }
        x.night(1);
        for (int issue = 0; issue <= 5; issue++) {
            due.is("marked", x.issue(issue, 1), 100 + issue);
            due.is("each issue has its night", x.at(0, issue, 0), 1 + issue);
        }
        due.is("and no more", x.issue(6, 1), -1);
    }

    // "DAY 0 at first."

    private static void dayAtFirst() {
        RollingNets x = Make.noLag();
        due.is("day", x.look(6), 0);
        x.trade(0, 1, 0, 1, 1);
        due.is("due", x.deal(0, 6), 0);
    }

    // "PRICE of an ISSUE (100 at first; 1 .. 9999), ..."

    private static void priceBounds() {
        RollingNets x = new RollingNets();
        for (int issue = 0; issue < 6; issue++) {
            due.is("price at first", x.issue(issue, 0), 100);
            due.is("price(.., 1)", x.price(issue, 1), true);
            due.is("price", x.issue(issue, 0), 1);
            due.is("price(.., 9999)", x.price(issue, 9999), true);
            for (int v : Make.beyond(1, 9999)) {
                due.is("price(.., " + v + ")", x.price(issue, v), false);
            }
            due.is("price", x.issue(issue, 0), 9999);
        }
    }

    private static void priceAtItsBounds() {
        RollingNets x = Make.noLag();
        x.trade(0, 1, 0, 1, 100);
        x.price(0, 9999);
        x.night(1);
        due.is("the long one wins", x.cash(0), 9899);
        due.is("the short one loses", x.cash(1), -9899);
        x.price(0, 1);
        x.night(1);
        due.is("the long one loses", x.cash(0), -99);
        due.is("the short one wins", x.cash(1), 99);
    }

    // "... MARKED: the PRICE of its latest mark (100 at first)."

    private static void markedIsOfTheLatestMark() {
        RollingNets x = new RollingNets();
        for (int issue = 0; issue < 6; issue++) {
            due.is("marked at first", x.issue(issue, 1), 100);
        }
        x.price(5, 300);
        x.price(5, 200);
        due.is("not marked yet", x.issue(5, 1), 100);
        x.night(1);
        due.is("the latest told", x.issue(5, 1), 200);
        x.price(5, 201);
        due.is("as it was marked", x.issue(5, 1), 200);
        due.is("another issue", x.issue(4, 1), 100);
    }

    // "CASH (a long, 0 at first) ... STOCK (0 at first), RESERVED (0 at first; told), LENDS (0 at first; told)"

    private static void numbersAtFirst() {
        RollingNets x = new RollingNets();
        x.set(0, 12);
        for (int member = 0; member < 12; member++) {
            due.is("cash", x.cash(member), 0);
            for (int issue = 0; issue < 6; issue++) {
                due.is("stock", x.at(member, issue, 1), 0);
                due.is("reserved", x.at(member, issue, 3), 0);
                due.is("lends", x.at(member, issue, 4), 0);
            }
        }
    }

    // "RANK 0 .. 9 (0 at first)"

    private static RollingNets fiveWait() {
        RollingNets x = Make.noLag();
        for (int member = 0; member < 5; member++) {
            x.trade(member, 5, 0, 1, 100);
        }
        x.night(1);
        return x;
    }

    private static void order(String when, RollingNets x, int... want) {
        for (int i = 0; i < want.length; i++) {
            due.is(when + ": queue(0, " + i + ", 0)", x.queue(0, i, 0), want[i]);
        }
    }

    private static void rankBounds() {
        RollingNets x = fiveWait();
        due.is("rank 0", x.tell(0, 0, 3, 0), true);
        due.is("rank 8", x.tell(1, 0, 3, 8), true);
        due.is("rank 9", x.tell(2, 0, 3, 9), true);
        due.is("rank 1", x.tell(3, 0, 3, 1), true);
        order("ranks", x, 2, 1, 3, 0, 4);
        for (int v : Make.beyond(0, 9)) {
            due.is("rank " + v, x.tell(4, 0, 3, v), false);
            due.is("rank " + v, x.tell(2, 0, 3, v), false);
        }
        order("ranks as they were", x, 2, 1, 3, 0, 4);
    }

    private static void rankAtFirst() {
        RollingNets x = fiveWait();
        order("at first they are alike", x, 0, 1, 2, 3, 4);
        x.tell(0, 0, 3, 0);
        x.tell(2, 0, 3, 0);
        order("0 is the rank at first", x, 0, 1, 2, 3, 4);
        x.tell(4, 0, 3, 1);
        order("1 is greater", x, 4, 0, 1, 2, 3);
    }

    // "FREE: STOCK less RESERVED, 0 at least ..."

    private static void free() {
        int[][] all = {
            {0, 0, 0}, {0, 1, 0}, {1, 0, 1}, {1, 1, 0}, {5, 4, 1}, {5, 5, 0}, {5, 6, 0},
            {0, 99999, 0}, {99999, 0, 99999}, {99999, 99998, 1}, {99999, 99999, 0}, {99998, 99999, 0},
        };
        for (int[] one : all) {
            RollingNets x = new RollingNets();
            x.tell(0, 0, 0, one[0]);
            x.tell(0, 0, 1, one[1]);
            due.is("free of " + one[0] + " less " + one[1], x.at(0, 0, 2), one[2]);
            due.is("more than free", x.move(0, 1, 0, one[2] + 1), false);
            due.is("all that is free", x.move(0, 1, 0, Math.max(1, one[2])), one[2] > 0);
            due.is("stock left", x.at(0, 0, 1), one[0] - one[2]);
        }
    }

    // "... (SUSPENDED, as can be told of a MEMBER: 0; ..."

    private static void suspendedHasNoneFree() {
        RollingNets x = Make.noLag();
        x.set(2, 1);
        x.trade(0, 1, 0, 10, 100);
        x.apart(2, 1, 0, 5, 100);
        x.night(1);
        for (int member = 1; member < 4; member++) {
            x.tell(member, 0, 0, 20);
            x.tell(member, 0, 2, 20);
            x.suspend(member, true);
            due.is("free", x.at(member, 0, 2), 0);
            due.is("could lend", x.at(member, 0, 8), 0);
            due.is("moved", x.move(member, 0, 0, 1), false);
        }
        due.is("moved to it", x.move(0, 1, 0, 1), false);
        x.night(1);
        due.is("none delivered, none lent, none passed", x.look(10), 0);
        x.suspend(1, false);
        due.is("free", x.at(1, 0, 2), 20);
        x.night(1);
        due.is("delivered, allotted and passed", x.look(10), 3);
        due.is("stock of 1", x.at(1, 0, 1), 5);
    }

    // "LAG 0 .. 3 (2 at first), LOAN AGE 1 .. 9 (2 at first), BUY AGE 1 .. 9 (3 at first), GRACE 0 .. 5
    // (1 at first), PREMIUM 0 .. 100 (10 at first), RATE 0 .. 100 (0 at first) can be told."

    private static final int[] LEAST = {2, 0, 1, 1, 0, 0, 0};
    private static final int[] MOST = {12, 3, 9, 9, 5, 100, 100};
    private static final int[] FIRST = {6, 2, 2, 3, 1, 10, 0};
    private static final int[] LOOK = {0, 1, 2, 3, 4, 5, 19};

    private static void settingsAtFirst() {
        RollingNets x = new RollingNets();
        for (int what = 0; what < 7; what++) {
            due.is("look(" + LOOK[what] + ") at first", x.look(LOOK[what]), FIRST[what]);
        }
    }

    private static void settingBounds() {
        for (int what = 0; what < 7; what++) {
            RollingNets x = new RollingNets();
            for (int v = LEAST[what]; v <= MOST[what]; v++) {
                due.is("set(" + what + ", " + v + ")", x.set(what, v), true);
                due.is("look(" + LOOK[what] + ")", x.look(LOOK[what]), v);
            }
            for (int v : Make.beyond(LEAST[what], MOST[what])) {
                due.is("set(" + what + ", " + v + ")", x.set(what, v), false);
                due.is("look(" + LOOK[what] + ")", x.look(LOOK[what]), MOST[what]);
            }
            for (int other = 0; other < 7; other++) {
                int want = other == what ? MOST[what] : FIRST[other];
                due.is("told of " + what + " alone", x.look(LOOK[other]), want);
            }
        }
    }

    /** Netted in the NIGHT of the DAY that it is DUE, not in the one ahead. */
    private static void lag() {
        for (int lag = 0; lag <= 3; lag++) {
            RollingNets x = new RollingNets();
            x.set(1, lag);
            x.tell(3, 0, 0, 5);
            due.is("trade", x.trade(0, 1, 0, 10, 100), 0);
            due.is("apart", x.apart(2, 3, 0, 5, 100), 1);
            due.is("due", x.deal(0, 6), lag);
            due.is("due", x.deal(1, 6), lag);
            Make.nights(x, lag);
            due.is("not due yet", x.deal(0, 7), 10);
            due.is("not due yet", x.deal(1, 7), 5);
            due.is("no lots", x.at(0, 0, 6), 0);
            x.night(1);
            due.is("done", x.deal(0, 7), 0);
            due.is("done", x.deal(1, 7), 0);
            due.lots(x, 0, 0, lag, 10);
            due.is("came", x.at(2, 0, 1), 5);
        }
        RollingNets x = new RollingNets();
        x.trade(0, 1, 0, 10, 100);
        due.is("2 at first", x.deal(0, 6), 2);
    }

    /** Lent to in the NIGHT in which it is LOAN AGE DAYS old, not in the one ahead. */
    private static void loanAge() {
        for (int age = 1; age <= 9; age++) {
            RollingNets x = Make.noLag();
            x.set(2, age);
            lendsOnDay(x, age);
        }
        lendsOnDay(Make.noLag(), 2);
    }

    private static void lendsOnDay(RollingNets x, int age) {
        x.trade(0, 1, 0, 10, 100);
        x.tell(2, 0, 0, 10);
        x.tell(2, 0, 2, 10);
        Make.nights(x, age);
        due.is("too young, loan age " + age, x.look(10), 0);
        x.night(1);
        due.line(x, 0, age, 2, 0, 2, 0, 10);
    }

    private static void buyAgeInNet() {
        for (int age = 1; age <= 9; age++) {
            RollingNets x = Make.noLag();
            x.set(3, age);
            x.trade(0, 1, 0, 10, 100);
            Make.nights(x, age - 1);
            due.is("too young, buy age " + age, x.give(0, 0, 1), -1);
            x.night(1);
            due.is("old enough, buy age " + age, x.give(0, 0, 1), 0);
        }
    }

    private static void buyAgeApart() {
        for (int age = 1; age <= 9; age++) {
            for (int lag = 0; lag <= 3; lag += 3) {
                RollingNets x = new RollingNets();
                x.set(1, lag);
                x.set(3, age);
                x.apart(0, 1, 0, 10, 100);
                Make.nights(x, lag + age - 1);
                due.is("due too late, buy age " + age, x.call(0), -1);
                x.night(1);
                due.is("due long ago, buy age " + age, x.call(0), 0);
            }
        }
        RollingNets x = Make.noLag();
        x.apart(0, 1, 0, 10, 100);
        x.night(2);
        due.is("3 at first", x.call(0), -1);
        x.night(1);
        due.is("3 at first", x.call(0), 0);
    }

    /** CLOSED OUT in the NIGHT of the DAY that it is DUE, not in the one ahead. */
    private static void grace() {
        for (int grace = 0; grace <= 5; grace++) {
            RollingNets x = Make.quick();
            x.set(4, grace);
            x.trade(0, 1, 0, 10, 100);
            x.apart(2, 3, 0, 10, 100);
            x.night(1);
            due.is("give", x.give(0, 0, 10), 0);
            due.is("call", x.call(1), 1);
            Make.nights(x, grace);
            for (int i = 0; i < 2; i++) {
                due.is("due", x.notice(i, 3), 1 + grace);
                due.is("not due yet, grace " + grace, x.notice(i, 4), 1);
            }
            x.night(1);
            for (int i = 0; i < 2; i++) {
                due.is("closed, grace " + grace, x.notice(i, 4), 0);
                due.is("bought in", x.notice(i, 6), 10);
            }
        }
    }

    /** BUY PRICE: PRICE, and PRICE times PREMIUM by 100, cut. */
    private static void premium() {
        int[][] all = {
            {0, 1, 1}, {0, 9999, 9999}, {100, 1, 2}, {100, 9999, 19998}, {99, 1, 1}, {99, 2, 3}, {99, 9999, 19898},
            {1, 99, 99}, {1, 100, 101}, {1, 199, 200}, {1, 200, 202}, {50, 3, 4}, {33, 100, 133},
        };
        for (int[] one : all) {
            for (int sort = 0; sort < 2; sort++) {
                RollingNets x = Make.quick();
                x.set(5, one[0]);
                if (sort == 0) {
                    x.trade(0, 1, 0, 90, 100);
                } else {
                    x.apart(0, 1, 0, 90, 100);
                }
                x.night(1);
                due.is("a notice", sort == 0 ? x.give(0, 0, 90) : x.call(0), 0);
                x.price(0, one[1]);
                x.night(1);
                // Cut for one share, not for all of them.
                due.is("premium " + one[0] + " on " + one[1], x.look(11), 90 * one[2]);
                due.is("all cash", x.look(12), -90 * one[2]);
                due.is("cash of 1", x.cash(1), 90 * (100 - one[2]));
            }
        }
        // As it is when it is closed out, not when it is given.
        RollingNets x = Make.quick();
        x.trade(0, 1, 0, 1, 100);
        x.apart(2, 3, 0, 1, 100);
        x.night(1);
        due.is("give", x.give(0, 0, 1), 0);
        due.is("call", x.call(1), 1);
        x.set(5, 50);
        x.night(1);
        due.is("told behind the notices", x.look(11), 300);
    }

    /** By 10000, cut: SHORT times MARKED times RATE. */
    private static void rate() {
        int[][] all = {
            {0, 9999, 9999, 0}, {1, 1, 9999, 0}, {1, 2, 5000, 1}, {1, 3, 3333, 0}, {1, 4, 5000, 2},
            {100, 1, 99, 0}, {100, 1, 100, 1}, {100, 1, 199, 1}, {100, 1, 200, 2}, {100, 9999, 9999, 999800},
            {99, 1, 101, 0}, {99, 1, 102, 1}, {3, 3, 1111, 0}, {3, 4, 2500, 3}, {3, 4, 2499, 2},
        };
        for (int[] one : all) {
            RollingNets x = Make.noLag();
            x.set(6, one[0]);
            x.price(0, one[2]);
            x.night(1);
            x.trade(0, 1, 0, one[1], one[2]);
            x.night(1);
            String call = "rate " + one[0] + " of " + one[1] + " at " + one[2];
            due.is(call, -x.cash(1), one[3]);
            due.is("outside", x.look(11), one[3]);
            due.is("the other pays nothing", x.cash(0), 0);
            due.is("fails", x.at(1, 0, 9), 1);
        }
        RollingNets x = Make.noLag();
        x.trade(0, 1, 0, 9999, 100);
        x.night(1);
        due.is("0 at first", x.cash(1), 0);
    }

    // "A TRADE (200 at most, by numbers)"

    private static void twoHundredTrades() {
        RollingNets x = Make.noLag();
        for (int k = 0; k < 200; k++) {
            boolean apart = k % 2 == 0;
            int b = k % 6;
            int s = (k + 1) % 6;
            int number = apart ? x.apart(b, s, k % 6, 1, 1) : x.trade(b, s, k % 6, 1, 1);
            due.is("trade", number, k);
        }
        due.is("trade 200", x.trade(0, 1, 0, 1, 1), -1);
        due.is("apart 200", x.apart(0, 1, 0, 1, 1), -1);
        due.is("look(7)", x.look(7), 200);
        due.is("deal(199, 0)", x.deal(199, 0), 1);
        due.is("deal(200, 0)", x.deal(200, 0), -1);
        x.night(1);
        due.is("done ones, too", x.trade(0, 1, 0, 1, 1), -1);
        due.is("done ones, too", x.apart(0, 1, 0, 1, 1), -1);
        due.is("look(7)", x.look(7), 200);
    }

    // "BUYER, SELLER (unlike)"

    private static void tradesOfUnlike() {
        RollingNets x = new RollingNets();
        x.set(0, 12);
        for (int b = 0; b < 12; b++) {
            for (int s = 0; s < 12; s += b % 4 + 1) {
                int next = x.look(7);
                due.is("trade(" + b + ", " + s + ")", x.trade(b, s, 0, 1, 1), b == s ? -1 : next);
            }
            due.is("apart of one alone", x.apart(b, b, 0, 1, 1), -1);
        }
        for (int far : Make.beyond(0, 11)) {
            due.is("buyer " + far, x.trade(far, 0, 0, 1, 1), -1);
            due.is("seller " + far, x.trade(0, far, 0, 1, 1), -1);
            due.is("buyer " + far, x.apart(far, 0, 0, 1, 1), -1);
            due.is("seller " + far, x.apart(0, far, 0, 1, 1), -1);
        }
    }

    // "SHARES 1 .. 9999, PRICE 1 .. 9999, APART (or not)"

    private static void tradeBounds() {
        RollingNets x = new RollingNets();
        for (int v : Make.beyond(1, 9999)) {
            due.is("trade of " + v, x.trade(0, 1, 0, v, 1), -1);
            due.is("trade at " + v, x.trade(0, 1, 0, 1, v), -1);
            due.is("apart of " + v, x.apart(0, 1, 0, v, 1), -1);
            due.is("apart at " + v, x.apart(0, 1, 0, 1, v), -1);
        }
        due.is("none of them is one", x.look(7), 0);
        int[][] good = {{1, 1}, {1, 9999}, {9999, 1}, {9999, 9999}};
        for (int k = 0; k < 8; k++) {
            int n = good[k / 2][0];
            int p = good[k / 2][1];
            due.is("a trade", k % 2 == 0 ? x.trade(0, 1, 0, n, p) : x.apart(0, 1, 0, n, p), k);
            due.is("its shares", x.deal(k, 3), n);
            due.is("its price", x.deal(k, 4), p);
            due.is("apart", x.deal(k, 5), k % 2);
        }
    }

    // "DUE: DAY and LAG as they are then"

    private static void dueAsTheyAreThen() {
        RollingNets x = new RollingNets();
        x.set(1, 3);
        x.trade(0, 1, 0, 10, 100);
        x.set(1, 0);
        due.is("as it was", x.deal(0, 6), 3);
        x.trade(0, 1, 0, 1, 100);
        due.is("as it is now", x.deal(1, 6), 0);
        x.night(1);
        due.lots(x, 0, 0, 0, 1);
        due.is("as it was", x.deal(0, 6), 3);
        x.night(3);
        due.lots(x, 0, 0, 0, 1, 3, 10);
        x.trade(0, 1, 0, 1, 100);
        due.is("the day as it is now", x.deal(2, 6), 4);
        RollingNets y = Make.onDay(99);
        y.set(1, 3);
        due.is("on the last day", y.trade(0, 1, 0, 1, 1), 0);
        due.is("on the last day", y.deal(0, 6), 102);
    }

    // "OPEN: how many SHARES are to be done yet (all at first)"

    private static void openAtFirst() {
        RollingNets x = Make.noLag();
        x.trade(0, 1, 0, 9999, 100);
        x.apart(0, 1, 0, 9999, 100);
        due.is("all", x.deal(0, 7), 9999);
        due.is("all", x.deal(1, 7), 9999);
        x.tell(1, 0, 0, 9998);
        x.night(1);
        due.is("netted", x.deal(0, 7), 0);
        due.is("not passed", x.deal(1, 7), 9999);
    }

    // "TO ADD n ...: as long as it has LOTS of the other sort, n of these are taken off, from the first on;
    // what is left of n comes behind its LOTS"

    /** Of 10, 20 and 30 of three days n are taken off: LONG ones, or SHORT ones. */
    private static void lotsTakenOff(boolean areLong) {
        int[][] all = {
            {1, 0, 9, 1, 20, 2, 30}, {9, 0, 1, 1, 20, 2, 30}, {10, 1, 20, 2, 30}, {11, 1, 19, 2, 30},
            {29, 1, 1, 2, 30}, {30, 2, 30}, {31, 2, 29}, {59, 2, 1}, {60}, {61, 3, -1}, {9999, 3, -9939},
        };
        for (int[] one : all) {
            RollingNets x = Make.noLag();
            int k = areLong ? 0 : 1;
            for (int n = 10; n <= 30; n += 10) {
                x.trade(0, 1, 0, n, 100);
                x.night(1);
            }
            due.is("the other way", areLong ? x.trade(2, 0, 0, one[0], 100) : x.trade(1, 2, 0, one[0], 100), 3);
            x.night(1);
            int[] want = new int[one.length - 1];
            for (int i = 0; i < want.length; i++) {
                want[i] = i % 2 == 1 && !areLong ? -one[i + 1] : one[i + 1];
            }
            due.lots(x, k, 0, want);
        }
    }

    // "(to the last one's SHARES, if that is of DAY d)"

    private static void lotsComeBehind() {
        RollingNets x = Make.noLag();
        x.trade(0, 1, 0, 10, 100);
        x.trade(0, 2, 0, 1, 100);
        x.night(1);
        due.lots(x, 0, 0, 0, 11);
        x.trade(0, 1, 0, 5, 100);
        x.trade(0, 1, 0, 6, 100);
        x.night(1);
        due.lots(x, 0, 0, 0, 11, 1, 11);
        due.lots(x, 1, 0, 0, -10, 1, -11);
        x.night(1);
        x.trade(0, 1, 0, 1, 100);
        x.night(1);
        due.lots(x, 0, 0, 0, 11, 1, 11, 3, 1);
        // What a lender gets comes to the last one's shares, too, if that is of the day.
        RollingNets y = Make.noLag();
        y.set(2, 1);
        y.trade(0, 1, 0, 10, 100);
        y.night(1);
        y.trade(2, 1, 0, 3, 100);
        y.tell(2, 0, 0, 4);
        y.tell(2, 0, 2, 4);
        y.night(1);
        due.lots(y, 2, 0, 1, 7);
        due.lots(y, 0, 0, 0, 6);
    }

    // "POSITION: all LONG ones, less all SHORT ones."

    private static void position() {
        RollingNets x = Make.noLag();
        due.is("no lots", x.at(0, 0, 0), 0);
        x.trade(0, 1, 0, 9999, 100);
        x.night(1);
        x.trade(0, 1, 0, 1, 100);
        x.night(1);
        due.is("long ones", x.at(0, 0, 0), 10000);
        due.is("short ones", x.at(1, 0, 0), -10000);
        x.trade(1, 0, 0, 9999, 100);
        x.trade(1, 0, 0, 1, 100);
        x.night(1);
        due.is("none any more", x.at(0, 0, 0), 0);
        due.is("none any more", x.at(0, 0, 6), 0);
        due.is("none any more", x.at(0, 0, 7), -1);
        due.is("none any more", x.at(1, 0, 6), 0);
    }
}
