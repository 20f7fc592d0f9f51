/** Promises 20, 21, 27 to 30, 32, 33 and 36: what is asked of lots, margins, queues, and what would be. */
public final class ViewTest {
    private static final Due due = new Due();
    private static final int NOTHING = -1000000;

    public static void main(String[] args) {
        at();
        atWrong();
        lot();
        margin();
        marginCuts();
        marginAges();
        stress();
        stressCuts();
        queue();
        queueOrder();
        longQueue();
        oneShare();
        aged();
        agedAreShort();
        tomorrow();
        tomorrowEach();
        tomorrowWrong();
        ahead();
        look();
        lookSets();
        lookOutside();
        due.end();
    }

    private static RollingNets noLag() {
        RollingNets x = new RollingNets();
        x.set(1, 0);
        return x;
    }

    private static void row(RollingNets x, int member, int issue, int... want) {
        for (int what = 0; what < want.length; what++) {
            due.is("at(" + member + ", " + issue + ", " + what + ")", x.at(member, issue, what), want[what]);
        }
    }

    private static void at() {
        RollingNets x = noLag();
        x.set(2, 1);
        x.night(2);
        x.trade(0, 1, 4, 30, 100);
        x.night(1);
        x.trade(0, 1, 4, 12, 100);
        x.tell(2, 4, 0, 20);
        x.tell(2, 4, 1, 3);
        x.tell(2, 4, 2, 9);
        x.tell(1, 4, 2, 50);
        x.night(1);
        row(x, 0, 4, 33, 9, 9, 0, 0, 0, 2, 2, 0, 0);
        row(x, 1, 4, -42, 0, 0, 0, 50, 0, 2, 2, 0, 2);
        row(x, 2, 4, 9, 11, 8, 3, 9, 9, 1, 3, 0, 0);
        row(x, 3, 4, 0, 0, 0, 0, 0, 0, 0, -1, 0, 0);
        row(x, 0, 3, 0, 0, 0, 0, 0, 0, 0, -1, 0, 0);
        x.tell(2, 4, 2, 30);
        due.is("could lend: free", x.at(2, 4, 8), 8);
        x.tell(2, 4, 2, 14);
        due.is("could lend: lends less lent", x.at(2, 4, 8), 5);
        x.tell(2, 4, 2, 8);
        due.is("could lend: not below 0", x.at(2, 4, 8), 0);
        x.tell(1, 4, 0, 60);
        due.is("could lend: short", x.at(1, 4, 8), 0);
        due.is("free, though short", x.at(1, 4, 2), 60);
        x.tell(0, 4, 2, 7);
        due.is("could lend, though long", x.at(0, 4, 8), 7);
    }

    private static void atWrong() {
        RollingNets x = noLag();
        due.is("what 10", x.at(0, 0, 10), NOTHING);
        due.is("what -1", x.at(0, 0, -1), NOTHING);
        due.is("what MAX", x.at(0, 0, Integer.MAX_VALUE), NOTHING);
        due.is("member 6", x.at(6, 0, 0), NOTHING);
        due.is("member -1", x.at(-1, 0, 0), NOTHING);
        due.is("issue 6", x.at(0, 6, 0), NOTHING);
        due.is("issue -1", x.at(0, -1, 9), NOTHING);
        due.is("far", x.at(Integer.MIN_VALUE, Integer.MIN_VALUE, 0), NOTHING);
        due.is("edges", x.at(5, 5, 7), -1);
    }

    private static void lot() {
        RollingNets x = noLag();
        x.trade(0, 1, 4, 30, 100);
        x.night(2);
        x.trade(0, 1, 4, 12, 100);
        x.night(1);
        int[][] want = {{0, 30}, {2, 12}};
        for (int i = 0; i < 2; i++) {
            due.is("long: day", x.lot(0, 4, i, 0), want[i][0]);
            due.is("long: shares", x.lot(0, 4, i, 1), want[i][1]);
            due.is("short: day", x.lot(1, 4, i, 0), want[i][0]);
            due.is("short: shares", x.lot(1, 4, i, 1), -want[i][1]);
        }
        due.is("what 2", x.lot(0, 4, 0, 2), -1);
        due.is("what -1", x.lot(0, 4, 0, -1), -1);
        due.is("i 2", x.lot(0, 4, 2, 0), -1);
        due.is("i -1", x.lot(0, 4, -1, 0), -1);
        due.is("i MAX", x.lot(0, 4, Integer.MAX_VALUE, 1), -1);
        due.is("member 6", x.lot(6, 4, 0, 0), -1);
        due.is("member -1", x.lot(-1, 4, 0, 0), -1);
        due.is("issue 6", x.lot(0, 6, 0, 0), -1);
        due.is("issue -1", x.lot(0, -1, 0, 0), -1);
        due.is("another issue", x.lot(0, 3, 0, 0), -1);
    }

    private static void margin() {
        RollingNets x = noLag();
        x.trade(0, 1, 0, 30, 100);
        x.trade(1, 0, 5, 10, 100);
        x.price(5, 50);
        due.is("nothing due yet", x.margin(0, 0), 0);
        x.night(1);
        // Long: 10 by 100. Short: 5 more for each day since.
        due.is("demand of 0", x.margin(0, 0), 300 + 75);
        due.is("demand of 1", x.margin(1, 0), 450 + 50);
        x.price(0, 1000);
        due.is("by what is marked", x.margin(0, 0), 375);
        x.night(2);
        due.is("demand of 0", x.margin(0, 0), 3000 + 125);
        due.is("demand of 1", x.margin(1, 0), 7500 + 50);
        due.is("lacks", x.margin(1, 2), 7550);
        x.collateral(1, 7549);
        due.is("collateral", x.margin(1, 1), 7549);
        due.is("lacks", x.margin(1, 2), 1);
        due.is("look(16)", x.look(16), 2);
        x.collateral(1, 7550);
        due.is("lacks", x.margin(1, 2), 0);
        due.is("look(16)", x.look(16), 1);
        x.collateral(1, 9999);
        due.is("lacks: not below 0", x.margin(1, 2), 0);
        due.is("demand", x.margin(1, 0), 7550);
        due.is("what 3", x.margin(1, 3), -1);
        due.is("what -1", x.margin(1, -1), -1);
        due.is("nobody", x.margin(6, 1), -1);
        due.is("nobody", x.margin(-1, 1), -1);
    }

    /** By 100 each lot, cut, then added. */
    private static void marginCuts() {
        RollingNets x = noLag();
        x.price(0, 7);
        x.price(1, 7);
        x.night(1);
        x.trade(0, 1, 0, 1, 7);
        x.trade(0, 1, 1, 9, 7);
        x.night(1);
        x.trade(0, 1, 0, 4, 7);
        x.night(1);
        // Long: 7 by 10 is cut to 0; 28 to 2; 63 to 6. Short: 7 * 20 to 1; 28 * 15 to 4; 63 * 20 to 12.
        due.is("long", x.margin(0, 0), 0 + 2 + 6);
        due.is("short", x.margin(1, 0), 1 + 4 + 12);
    }

    /** 100 in all at most; more than an int holds. */
    private static void marginAges() {
        RollingNets x = noLag();
        x.trade(0, 1, 0, 10, 100);
        x.night(18);
        due.is("10 and 17 times 5 and 5", x.margin(1, 0), 1000);
        x.night(1);
        due.is("100 at most", x.margin(1, 0), 1000);
        due.is("long", x.margin(0, 0), 100);
        RollingNets y = noLag();
        y.price(0, 9999);
        for (int k = 0; k < 100; k++) {
            y.trade(0, 1, 0, 9999, 9999);
        }
        y.night(17);
        due.is("95", y.margin(1, 0), 9999L * 9999 * 95);
        due.is("lacks", y.margin(1, 2), 9999L * 9999 * 95);
        y.night(1);
        due.is("100", y.margin(1, 0), 9999L * 9999 * 100);
    }

    private static void stress() {
        RollingNets x = noLag();
        x.trade(0, 1, 0, 10, 100);
        x.trade(2, 3, 0, 10, 95);
        x.trade(3, 2, 4, 5, 100);
        x.night(1);
        due.is("cash of 3", x.cash(3), -50);
        due.is("stress(0)", x.stress(0), 8);
        // 0 would win 10 of each by 100; 1 lose them; 2 has 50, 3 -50, and 5 of each the other way.
        due.is("stress(1)", x.stress(1), 2 + 8);
        due.is("stress(-1)", x.stress(-1), 1 + 8);
        due.is("stress(10)", x.stress(10), 2 + 8);
        due.is("stress(-9)", x.stress(-9), 1 + 8);
        due.is("stress(-10): 2 and 3 have just nought", x.stress(-10), 1);
        due.is("stress(-11)", x.stress(-11), 1 + 4);
        due.is("stress(-99)", x.stress(-99), 1 + 4);
        due.is("stress(99)", x.stress(99), 2 + 8);
        x.collateral(0, 990);
        due.is("stress(-99)", x.stress(-99), 4);
        x.collateral(0, 989);
        due.is("stress(-99)", x.stress(-99), 1 + 4);
        due.is("stress(-98)", x.stress(-98), 4);
        due.is("stress(100)", x.stress(100), -1);
        due.is("stress(-100)", x.stress(-100), -1);
        due.is("stress(MIN)", x.stress(Integer.MIN_VALUE), -1);
        x.price(0, 200);
        due.is("by what is marked", x.stress(-98), 4);
    }

    /** Cut for each issue, towards nought. */
    private static void stressCuts() {
        RollingNets x = noLag();
        for (int issue = 0; issue < 2; issue++) {
            x.price(issue, 50);
        }
        x.night(1);
        x.trade(0, 1, 0, 1, 50);
        x.trade(0, 1, 1, 1, 50);
        x.night(1);
        due.is("50 by 100 is cut to 0, twice", x.stress(1), 0);
        due.is("the same below", x.stress(-1), 0);
        due.is("2: 1 is lost in each", x.stress(2), 2);
        due.is("-3: 1 and a half is lost in each", x.stress(-3), 1);
        x.collateral(0, 2);
        due.is("-3: two in all", x.stress(-3), 0);
        due.is("-4: four in all", x.stress(-4), 1);
    }

    private static void queue() {
        RollingNets x = noLag();
        x.trade(0, 1, 3, 30, 100);
        x.trade(2, 1, 3, 8, 100);
        x.night(1);
        x.trade(0, 1, 3, 5, 100);
        x.trade(0, 1, 2, 5, 100);
        x.night(1);
        int[][] want = {{0, 0, 30}, {2, 0, 8}, {0, 1, 5}};
        for (int what : new int[] {0, 1, 2, 3, 10, -1, -2, Integer.MAX_VALUE, Integer.MIN_VALUE}) {
            due.is("how many, what " + what, x.queue(3, -1, what), 3);
            due.is("how many of none, what " + what, x.queue(5, -1, what), 0);
            due.is("how many of issue 6, what " + what, x.queue(6, -1, what), -1);
            due.is("how many of issue -1, what " + what, x.queue(-1, -1, what), -1);
        }
        for (int i = 0; i < 3; i++) {
            for (int what = 0; what < 3; what++) {
                due.is("queue(3, " + i + ", " + what + ")", x.queue(3, i, what), want[i][what]);
            }
            due.is("what 3", x.queue(3, i, 3), -1);
            due.is("what -1", x.queue(3, i, -1), -1);
        }
        due.is("i 3, what 3", x.queue(3, 3, 3), -1);
        due.is("i -2, what 3", x.queue(3, -2, 3), -1);
        due.is("i 3", x.queue(3, 3, 0), -1);
        due.is("i -2", x.queue(3, -2, 0), -1);
        due.is("i MAX", x.queue(3, Integer.MAX_VALUE, 0), -1);
        due.is("issue 6", x.queue(6, -1, 0), -1);
        due.is("issue -1", x.queue(-1, -1, 0), -1);
        due.is("another issue", x.queue(2, -1, 0), 1);
        due.is("one without lots", x.queue(5, -1, 0), 0);
        due.is("nothing moved", x.look(10), 0);
    }

    private static void queueOrder() {
        RollingNets x = noLag();
        x.set(0, 8);
        x.set(3, 1);
        x.trade(4, 7, 0, 1, 100);
        x.trade(5, 7, 0, 1, 100);
        x.night(1);
        for (int member = 0; member < 7; member++) {
            x.trade(member, 7, 0, 1, 100);
        }
        x.night(1);
        x.tell(2, 0, 3, 9);
        x.tell(6, 0, 3, 9);
        x.tell(1, 0, 3, 3);
        x.suspend(2, true);
        x.suspend(5, true);
        due.is("give", x.give(3, 0, 1), 0);
        due.is("give", x.give(5, 0, 1), 1);
        int[] members = {3, 4, 6, 1, 0, 4, 5, 5, 2};
        int[] days = {1, 0, 1, 1, 1, 1, 0, 1, 1};
        due.is("how many", x.queue(0, -1, 1), 9);
        for (int i = 0; i < 9; i++) {
            due.is("member of " + i, x.queue(0, i, 0), members[i]);
            due.is("day of " + i, x.queue(0, i, 1), days[i]);
            due.is("shares of " + i, x.queue(0, i, 2), 1);
        }
        x.suspend(5, false);
        due.is("noticed and old: first", x.queue(0, 0, 0), 5);
        due.is("noticed: second", x.queue(0, 1, 0), 3);
        due.is("noticed: third", x.queue(0, 2, 0), 5);
        due.is("ahead of 4", x.ahead(4, 0), 3);
        due.is("ahead of 3", x.ahead(3, 0), 1);
    }

    private static RollingNets longQueued() {
        RollingNets x = noLag();
        x.set(2, 9);
        for (int day = 0; day < 50; day++) {
            for (int member = 0; member < 4; member++) {
                x.trade(member, 5, 0, 1 + day, 100);
            }
            x.night(1);
        }
        return x;
    }

    private static void longQueue() {
        for (int what = 0; what < 3; what++) {
            RollingNets x = longQueued();
            for (int i = 0; i < 200; i++) {
                int want = what == 0 ? i % 4 : what == 1 ? i / 4 : 1 + i / 4;
                due.is("queue(0, " + i + ", " + what + ")", x.queue(0, i, what), want);
            }
        }
        RollingNets x = longQueued();
        due.is("how many", x.queue(0, -1, 0), 200);
        due.is("i 200", x.queue(0, 200, 0), -1);
        due.is("lots", x.at(5, 0, 6), 50);
        due.is("ahead", x.ahead(3, 0), 3);
        x.suspend(0, true);
        due.is("ahead of the suspended", x.ahead(0, 0), 3 * 50 * 51 / 2);
    }

    /** A lot of one share is one; member 0 is one, too. */
    private static void oneShare() {
        RollingNets x = noLag();
        x.trade(1, 0, 0, 1, 100);
        x.night(1);
        due.is("long", x.lot(1, 0, 0, 1), 1);
        due.is("short", x.lot(0, 0, 0, 1), -1);
        due.is("look(18)", x.look(18), 1);
        due.is("issue: long", x.issue(0, 2), 1);
        due.is("issue: short", x.issue(0, 3), 1);
        due.is("aged", x.aged(0, 1), 1);
        x.tell(0, 0, 0, 5);
        x.tell(0, 0, 2, 5);
        due.is("could lend: short by one", x.at(0, 0, 8), 0);
        x.trade(0, 2, 0, 1, 100);
        x.trade(3, 1, 0, 1, 100);
        x.night(1);
        due.is("netted: no lots", x.at(0, 0, 6), 0);
        due.is("netted: no lots", x.at(1, 0, 6), 0);
        due.is("on day 1", x.lot(2, 0, 0, 0), 1);
        due.is("on day 1", x.lot(3, 0, 0, 0), 1);
        x.tell(0, 0, 0, 1);
        x.night(2);
        due.is("lent", x.at(0, 0, 5), 1);
        due.is("lent", x.at(3, 0, 1), 1);
        due.is("lender's lot", x.lot(0, 0, 0, 0), 3);
    }

    /** Of SHORT LOTS alone: who waits has waited longer here than who owes. */
    private static void agedAreShort() {
        RollingNets x = noLag();
        x.trade(0, 1, 0, 10, 100);
        x.night(2);
        x.trade(1, 2, 0, 10, 100);
        x.night(1);
        due.is("long since day 0", x.lot(0, 0, 0, 0), 0);
        due.is("short since day 2", x.lot(2, 0, 0, 0), 2);
        due.is("aged(0, 1)", x.aged(0, 1), 10);
        due.is("aged(0, 2)", x.aged(0, 2), 0);
        due.is("aged(0, 3)", x.aged(0, 3), 0);
    }

    private static void aged() {
        RollingNets x = noLag();
        x.trade(0, 1, 3, 30, 100);
        x.night(2);
        x.trade(0, 1, 3, 7, 100);
        x.trade(0, 2, 3, 4, 100);
        x.trade(0, 2, 4, 9, 100);
        x.night(3);
        due.is("aged(3, 0)", x.aged(3, 0), 41);
        due.is("aged(3, 3)", x.aged(3, 3), 41);
        due.is("aged(3, 4)", x.aged(3, 4), 30);
        due.is("aged(3, 5)", x.aged(3, 5), 30);
        due.is("aged(3, 6)", x.aged(3, 6), 0);
        due.is("aged(3, 99)", x.aged(3, 99), 0);
        due.is("aged(4, 3)", x.aged(4, 3), 9);
        due.is("aged(3, 100)", x.aged(3, 100), -1);
        due.is("aged(3, -1)", x.aged(3, -1), -1);
        due.is("aged(6, 0)", x.aged(6, 0), -1);
        due.is("aged(-1, 0)", x.aged(-1, 0), -1);
        for (int k = 0; k < 5; k++) {
            x.night(20);
        }
        due.is("aged(3, 99)", x.aged(3, 99), 30);
        due.is("aged(3, 97)", x.aged(3, 97), 41);
    }

    private static void tomorrow() {
        RollingNets x = noLag();
        x.set(6, 100);
        x.trade(0, 1, 0, 100, 90);
        x.tell(1, 0, 0, 60);
        x.dividend(0, 1);
        x.price(0, 120);
        for (int again = 0; again < 2; again++) {
            due.is("position", x.tomorrow(0, 0, 0), 40);
            due.is("stock", x.tomorrow(0, 0, 1), 60);
            due.is("position", x.tomorrow(1, 0, 0), -40);
            // 100 times 10 of the trade, 60 paid at 100, 40 marked by 20, a dividend of 100 on them all.
            due.is("cash", x.tomorrow(0, 0, 9), 1000 - 6000 + 800 + 100);
            due.is("cash", x.tomorrow(0, 5, 9), 1000 - 6000 + 800 + 100);
            due.is("cash", x.tomorrow(1, 0, 9), -1000 + 6000 - 800 - 40 - 48);
        }
        due.is("nothing stays: day", x.look(6), 0);
        due.is("nothing stays: lots", x.at(0, 0, 0), 0);
        due.is("nothing stays: book", x.look(10), 0);
        due.is("nothing stays: cash", x.cash(0), 0);
        due.is("nothing stays: outside", x.look(11), 0);
        due.is("nothing stays: open", x.deal(0, 7), 100);
        due.is("nothing stays: marked", x.issue(0, 1), 100);
        x.night(1);
        due.is("as it was said", x.cash(0), -4100);
        due.is("as it was said", x.cash(1), 4112);
        due.is("tomorrow on day 1", x.tomorrow(0, 0, 9), 0);
    }

    private static void tomorrowEach() {
        RollingNets x = noLag();
        x.set(2, 1);
        x.set(3, 1);
        x.set(4, 0);
        x.trade(0, 1, 4, 30, 100);
        x.trade(0, 5, 3, 30, 100);
        x.night(1);
        x.trade(0, 1, 4, 12, 100);
        x.tell(2, 4, 0, 20);
        x.tell(2, 4, 1, 3);
        x.tell(2, 4, 2, 9);
        due.is("give", x.give(0, 3, 10), 0);
        int[][] want = {
            {33, 9, 9, 0, 0, 0, 2, 0, 0, -900 - 1000},
            {-42, 0, 0, 0, 0, 0, 2, 0, 0, 0},
            {9, 11, 8, 3, 9, 9, 1, 1, 0, 900},
        };
        for (int member = 0; member < 3; member++) {
            for (int what = 0; what < 10; what++) {
                String call = "tomorrow(" + member + ", 4, " + what + ")";
                due.is(call, x.tomorrow(member, 4, what), want[member][what]);
            }
        }
        due.is("bought in", x.tomorrow(0, 3, 0), 20);
        due.is("bought in", x.tomorrow(5, 3, 9), 1000 - 1100);
        due.is("the notice is open", x.look(9), 1);
        x.tell(2, 4, 2, 15);
        due.is("could lend then", x.tomorrow(2, 4, 8), 0);
        x.tell(2, 4, 0, 60);
        x.tell(2, 4, 2, 40);
        due.is("could lend then", x.tomorrow(2, 4, 8), 10);
    }

    private static void tomorrowWrong() {
        RollingNets x = noLag();
        due.is("what 10", x.tomorrow(0, 0, 10), NOTHING);
        due.is("what -1", x.tomorrow(0, 0, -1), NOTHING);
        due.is("member", x.tomorrow(6, 0, 0), NOTHING);
        due.is("member", x.tomorrow(-1, 0, 0), NOTHING);
        due.is("issue", x.tomorrow(0, 6, 0), NOTHING);
        due.is("issue", x.tomorrow(0, -1, 0), NOTHING);
        for (int k = 0; k < 4; k++) {
            x.night(20);
        }
        x.night(18);
        due.is("on day 98", x.tomorrow(0, 0, 0), 0);
        x.night(1);
        for (int what = -1; what <= 10; what++) {
            due.is("on day 99", x.tomorrow(0, 0, what), NOTHING);
        }
    }

    private static void ahead() {
        RollingNets x = noLag();
        x.trade(0, 1, 3, 30, 100);
        x.trade(2, 1, 3, 8, 100);
        x.night(1);
        x.trade(0, 1, 3, 5, 100);
        x.trade(4, 1, 3, 6, 100);
        x.trade(4, 1, 2, 6, 100);
        x.night(1);
        due.is("ahead(0, 3)", x.ahead(0, 3), 0);
        due.is("ahead(2, 3)", x.ahead(2, 3), 30);
        due.is("ahead(4, 3): of one two lots", x.ahead(4, 3), 43);
        due.is("ahead(4, 2)", x.ahead(4, 2), 0);
        due.is("short", x.ahead(1, 3), -1);
        due.is("none", x.ahead(3, 3), -1);
        due.is("none", x.ahead(0, 2), -1);
        due.is("nobody", x.ahead(6, 3), -1);
        due.is("nobody", x.ahead(-1, 3), -1);
        due.is("no issue", x.ahead(0, 6), -1);
        due.is("no issue", x.ahead(0, -1), -1);
        x.tell(2, 0, 3, 1);
        due.is("by rank", x.ahead(0, 3), 8);
        x.suspend(0, true);
        due.is("suspended", x.ahead(0, 3), 14);
        due.is("ahead of the suspended", x.ahead(4, 3), 8);
    }

    private static void look() {
        RollingNets x = noLag();
        x.set(0, 7);
        x.set(2, 4);
        x.set(3, 1);
        x.set(4, 2);
        x.set(5, 6);
        x.set(6, 8);
        x.trade(0, 1, 0, 10, 100);
        x.apart(2, 3, 0, 10, 100);
        x.night(2);
        due.is("give", x.give(0, 0, 1), 0);
        due.is("call", x.call(1), 1);
        x.night(3);
        x.trade(0, 1, 0, 9, 100);
        x.trade(0, 1, 4, 7, 100);
        x.apart(0, 1, 4, 7, 100);
        due.is("give", x.give(0, 0, 1), 2);
        // Five nights short of ten: 10 * 100 * 8 / 10000 is cut to 0; two were bought in, at 106 each.
        int[] want = {7, 0, 4, 1, 2, 6, 5, 5, 3, 1, 2, 11 * 106, -11 * 106, 0, 0, 16, 2, 0, 2, 8};
        for (int what = 0; what < want.length; what++) {
            due.is("look(" + what + ")", x.look(what), want[what]);
        }
        due.is("look(20)", x.look(20), NOTHING);
        due.is("look(-1)", x.look(-1), NOTHING);
        due.is("look(MAX)", x.look(Integer.MAX_VALUE), NOTHING);
        due.is("look(MIN)", x.look(Integer.MIN_VALUE), NOTHING);
    }

    private static void lookSets() {
        RollingNets x = noLag();
        x.set(0, 12);
        x.trade(0, 11, 0, 10, 100);
        x.trade(0, 11, 5, 10, 100);
        x.trade(11, 3, 4, 10, 100);
        x.trade(4, 5, 4, 10, 100);
        x.tell(5, 4, 0, 10);
        x.suspend(11, true);
        x.suspend(2, true);
        due.is("none is short yet", x.look(18), 0);
        x.night(1);
        due.is("short in any issue", x.look(18), (1 << 11) + (1 << 3));
        due.is("suspended", x.look(17), (1 << 11) + (1 << 2));
        due.is("who lack", x.look(16), 3);
    }

    /** OUTSIDE and all CASH as ints: their lowest bits. */
    private static void lookOutside() {
        RollingNets x = noLag();
        x.price(0, 9999);
        x.set(5, 100);
        x.set(3, 1);
        x.set(4, 0);
        for (int k = 0; k < 20; k++) {
            x.apart(0, 1, 0, 9999, 1);
        }
        x.night(1);
        long paid = 0;
        for (int k = 0; k < 20; k++) {
            due.is("call", x.call(k), k);
            paid += 9999L * 19998;
        }
        x.night(1);
        due.is("outside", x.look(11), (int) paid);
        due.is("all cash", x.look(12), (int) -paid);
        due.is("cash", x.cash(1), 20 * 9999 - paid);
        due.is("tomorrow's cash", x.tomorrow(1, 0, 9), 0);
    }
}
