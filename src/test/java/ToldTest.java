/** Promises 1 to 4 and 8 to 11: a new object, and what is told. */
public final class ToldTest {
    private static final Due due = new Due();
    private static final int NOTHING = -1000000;

    public static void main(String[] args) {
        newObject();
        setBounds();
        setMembers();
        setWorks();
        tellEach();
        tellWrong();
        tellStays();
        price();
        move();
        moveWrong();
        split();
        splitRefused();
        splitBounds();
        suspend();
        suspendedIsNotFree();
        collateral();
        due.end();
    }

    private static void newObject() {
        RollingNets x = new RollingNets();
        int[] first = {6, 2, 2, 3, 1, 10, 0, 0, 0, 0, 0, 0, 0, 0, 0, 0, 0, 0, 0, 0};
        for (int what = 0; what < first.length; what++) {
            due.is("new: look(" + what + ")", x.look(what), first[what]);
        }
        for (int member = 0; member < 6; member++) {
            newMember(new RollingNets(), member);
        }
        newIssues(new RollingNets());
        due.is("new: deal", x.deal(0, 0), -1);
        due.is("new: notice", x.notice(0, 0), -1);
        due.is("new: book", x.book(0, 0), -1);
        due.is("new: fault(0)", x.fault(0), 0);
        due.is("new: fault(1)", x.fault(1), -1);
        due.is("new: image(false)", x.image(false), false);
    }

    private static void newMember(RollingNets x, int member) {
        int[] nobody = {0, 0, 0, 0, 0, 0, 0, -1, 0, 0};
        due.is("new: cash", x.cash(member), 0);
        due.is("new: margin", x.margin(member, 0), 0);
        due.is("new: collateral", x.margin(member, 1), 0);
        for (int issue = 0; issue < 6; issue++) {
            for (int what = 0; what < nobody.length; what++) {
                due.is("new: at(.., " + what + ")", x.at(member, issue, what), nobody[what]);
            }
            due.is("new: lot", x.lot(member, issue, 0, 0), -1);
            due.is("new: ahead", x.ahead(member, issue), -1);
        }
    }

    private static void newIssues(RollingNets x) {
        int[] fresh = {100, 100, 0, 0, 0, -1, 0, 0, 0};
        for (int issue = 0; issue < 6; issue++) {
            for (int what = 0; what < fresh.length; what++) {
                due.is("new: issue(.., " + what + ")", x.issue(issue, what), fresh[what]);
            }
            due.is("new: queue", x.queue(issue, -1, 0), 0);
            due.is("new: queue, another what", x.queue(issue, -1, 3), 0);
        }
    }

    private static void setBounds() {
        int[] least = {2, 0, 1, 1, 0, 0, 0};
        int[] most = {12, 3, 9, 9, 5, 100, 100};
        int[] asked = {0, 1, 2, 3, 4, 5, 19};
        RollingNets x = new RollingNets();
        for (int what = 0; what < 7; what++) {
            due.is("set(" + what + ", least)", x.set(what, least[what]), true);
            due.is("look", x.look(asked[what]), least[what]);
            due.is("set(" + what + ", most)", x.set(what, most[what]), true);
            due.is("look", x.look(asked[what]), most[what]);
            due.is("set(" + what + ", below)", x.set(what, least[what] - 1), false);
            due.is("set(" + what + ", beyond)", x.set(what, most[what] + 1), false);
            due.is("set(" + what + ", far)", x.set(what, Integer.MAX_VALUE), false);
            due.is("set(" + what + ", far below)", x.set(what, Integer.MIN_VALUE), false);
            due.is("look", x.look(asked[what]), most[what]);
        }
        due.is("set(-1, 3)", x.set(-1, 3), false);
        due.is("set(7, 3)", x.set(7, 3), false);
        due.is("set(MAX, 3)", x.set(Integer.MAX_VALUE, 3), false);
        due.is("set(MIN, 3)", x.set(Integer.MIN_VALUE, 3), false);
    }

    private static void setMembers() {
        RollingNets x = new RollingNets();
        due.is("set(0, 12)", x.set(0, 12), true);
        due.is("tell(11, 5, 0, 7)", x.tell(11, 5, 0, 7), true);
        due.is("set(0, 2)", x.set(0, 2), true);
        due.is("at(2, 0, 0)", x.at(2, 0, 0), NOTHING);
        due.is("apart(0, 1, 0, 1, 1)", x.apart(0, 1, 0, 1, 1), 0);
        due.is("set(0, 2) with a trade", x.set(0, 2), false);
        due.is("set(0, 3) with a trade", x.set(0, 3), false);
        due.is("set(1, 3) with a trade", x.set(1, 3), true);
        due.is("look(0)", x.look(0), 2);
        // Done with or not: a trade is a trade.
        due.is("tell", x.tell(1, 0, 0, 1), true);
        due.is("set", x.set(1, 0), true);
        due.is("night(3)", x.night(3), 3);
        due.is("deal(0, 7)", x.deal(0, 7), 0);
        due.is("set(0, 3) with a trade done", x.set(0, 3), false);
    }

    private static void setWorks() {
        RollingNets x = new RollingNets();
        for (int lag = 0; lag <= 3; lag++) {
            due.is("set(1, lag)", x.set(1, lag), true);
            due.is("trade", x.trade(0, 1, 0, 1, 1), lag);
            due.is("deal: due", x.deal(lag, 6), lag);
        }
        due.is("night(2)", x.night(2), 2);
        due.is("trade", x.trade(0, 1, 0, 1, 1), 4);
        due.is("deal: due", x.deal(4, 6), 5);
        due.is("deal: due as it was", x.deal(0, 6), 0);
    }

    private static void tellEach() {
        RollingNets x = new RollingNets();
        due.is("tell stock", x.tell(5, 5, 0, 99999), true);
        due.is("tell reserved", x.tell(5, 5, 1, 40000), true);
        due.is("tell lends", x.tell(5, 5, 2, 70000), true);
        due.is("at stock", x.at(5, 5, 1), 99999);
        due.is("at free", x.at(5, 5, 2), 59999);
        due.is("at reserved", x.at(5, 5, 3), 40000);
        due.is("at lends", x.at(5, 5, 4), 70000);
        due.is("at lent", x.at(5, 5, 5), 0);
        due.is("at could lend", x.at(5, 5, 8), 59999);
        due.is("at of another issue", x.at(5, 4, 1), 0);
        due.is("at of another member", x.at(4, 5, 1), 0);
        due.is("tell reserved all", x.tell(5, 5, 1, 99999), true);
        due.is("at free: none", x.at(5, 5, 2), 0);
        due.is("tell stock less than reserved", x.tell(5, 5, 0, 1), true);
        due.is("at free: not below 0", x.at(5, 5, 2), 0);
        due.is("tell reserved 0", x.tell(5, 5, 1, 0), true);
        due.is("at free", x.at(5, 5, 2), 1);
        due.is("tell stock 0", x.tell(5, 5, 0, 0), true);
        due.is("at stock", x.at(5, 5, 1), 0);
        due.is("tell rank", x.tell(5, 0, 3, 9), true);
        due.is("tell rank, issue not asked", x.tell(5, -7, 3, 0), true);
    }

    private static void tellWrong() {
        RollingNets x = new RollingNets();
        for (int what = 0; what <= 2; what++) {
            due.is("tell v below", x.tell(0, 0, what, -1), false);
            due.is("tell v beyond", x.tell(0, 0, what, 100000), false);
            due.is("tell issue below", x.tell(0, -1, what, 5), false);
            due.is("tell issue beyond", x.tell(0, 6, what, 5), false);
            due.is("tell member below", x.tell(-1, 0, what, 5), false);
            due.is("tell member beyond", x.tell(6, 0, what, 5), false);
        }
        due.is("tell rank below", x.tell(0, 0, 3, -1), false);
        due.is("tell rank beyond", x.tell(0, 0, 3, 10), false);
        due.is("tell rank of nobody", x.tell(6, 0, 3, 1), false);
        due.is("tell what below", x.tell(0, 0, -1, 1), false);
        due.is("tell what beyond", x.tell(0, 0, 4, 1), false);
        due.is("tell far", x.tell(Integer.MIN_VALUE, Integer.MAX_VALUE, Integer.MIN_VALUE, Integer.MAX_VALUE), false);
        for (int what = 1; what <= 4; what++) {
            due.is("nothing came of it", x.at(0, 0, what), 0);
        }
    }

    private static void tellStays() {
        RollingNets x = new RollingNets();
        x.set(0, 8);
        x.tell(7, 3, 0, 50);
        x.tell(7, 3, 1, 20);
        x.suspend(7, true);
        x.collateral(7, 77);
        due.is("look(17)", x.look(17), 128);
        due.is("set(0, 4)", x.set(0, 4), true);
        due.is("at: not there", x.at(7, 3, 1), NOTHING);
        due.is("look(17) of those there", x.look(17), 0);
        due.is("issue: all stock of those there", x.issue(3, 4), 0);
        due.is("tell: not there", x.tell(7, 3, 0, 9), false);
        due.is("set(0, 12)", x.set(0, 12), true);
        due.is("at: there again", x.at(7, 3, 1), 50);
        due.is("at reserved", x.at(7, 3, 3), 20);
        due.is("look(17)", x.look(17), 128);
        due.is("margin", x.margin(7, 1), 77);
        due.is("issue: all stock", x.issue(3, 4), 50);
    }

    private static void price() {
        RollingNets x = new RollingNets();
        due.is("price(5, 1)", x.price(5, 1), true);
        due.is("issue price", x.issue(5, 0), 1);
        due.is("issue marked", x.issue(5, 1), 100);
        due.is("price(5, 9999)", x.price(5, 9999), true);
        due.is("price(5, 0)", x.price(5, 0), false);
        due.is("price(5, 10000)", x.price(5, 10000), false);
        due.is("price(-1, 5)", x.price(-1, 5), false);
        due.is("price(6, 5)", x.price(6, 5), false);
        due.is("issue price", x.issue(5, 0), 9999);
        due.is("issue price of another", x.issue(4, 0), 100);
        due.is("night", x.night(1), 1);
        due.is("issue marked", x.issue(5, 1), 9999);
        due.is("price stays", x.issue(5, 0), 9999);
    }

    private static void move() {
        RollingNets x = new RollingNets();
        x.tell(0, 2, 0, 30);
        x.tell(0, 2, 1, 10);
        due.is("move more than free", x.move(0, 5, 2, 21), false);
        due.is("move all free", x.move(0, 5, 2, 20), true);
        due.is("from has", x.at(0, 2, 1), 10);
        due.is("to has", x.at(5, 2, 1), 20);
        due.is("none is free", x.move(0, 5, 2, 1), false);
        due.is("back", x.move(5, 0, 2, 1), true);
        due.is("from has", x.at(0, 2, 1), 11);
        due.is("to has", x.at(5, 2, 1), 19);
        due.is("no line", x.look(10), 0);
        due.is("no cash", x.cash(0), 0);
        due.is("not lent", x.at(5, 2, 5), 0);
    }

    private static void moveWrong() {
        RollingNets x = new RollingNets();
        x.tell(0, 0, 0, 30);
        due.is("move 0", x.move(0, 1, 0, 0), false);
        due.is("move -1", x.move(0, 1, 0, -1), false);
        due.is("move far", x.move(0, 1, 0, Integer.MAX_VALUE), false);
        due.is("move far below", x.move(0, 1, 0, Integer.MIN_VALUE), false);
        due.is("move to itself", x.move(0, 0, 0, 1), false);
        due.is("move from nobody", x.move(-1, 0, 0, 1), false);
        due.is("move from nobody", x.move(6, 0, 0, 1), false);
        due.is("move to nobody", x.move(0, -1, 0, 1), false);
        due.is("move to nobody", x.move(0, 6, 0, 1), false);
        due.is("move of no issue", x.move(0, 1, -1, 1), false);
        due.is("move of no issue", x.move(0, 1, 6, 1), false);
        due.is("suspend", x.suspend(0, true), true);
        due.is("move of the suspended", x.move(0, 1, 0, 1), false);
        due.is("suspend", x.suspend(0, false), true);
        due.is("suspend", x.suspend(1, true), true);
        due.is("move to the suspended", x.move(0, 1, 0, 1), true);
    }

    private static void split() {
        RollingNets x = new RollingNets();
        x.set(1, 0);
        x.trade(0, 1, 4, 30, 100);
        x.night(1);
        x.trade(0, 1, 4, 12, 100);
        x.tell(3, 4, 0, 8);
        x.tell(3, 4, 2, 6);
        due.is("night(2)", x.night(2), 2);
        // On day 2 the lot of day 0 has waited for two days: member 3 lends it 6.
        due.is("lent", x.at(3, 4, 5), 6);
        x.tell(2, 4, 0, 11);
        x.tell(2, 4, 1, 4);
        x.price(4, 60);
        due.is("split(4, 2)", x.split(4, 2), true);
        due.is("price", x.issue(4, 0), 30);
        due.is("marked", x.issue(4, 1), 50);
        due.is("stock", x.at(2, 4, 1), 22);
        due.is("reserved", x.at(2, 4, 3), 8);
        due.is("free", x.at(2, 4, 2), 14);
        due.is("lends", x.at(3, 4, 4), 12);
        due.is("lent", x.at(3, 4, 5), 12);
        due.is("stock of the lender", x.at(3, 4, 1), 4);
        due.is("stock of the borrower", x.at(0, 4, 1), 12);
        due.is("long", x.at(0, 4, 0), 72);
        due.is("its first lot", x.lot(0, 4, 0, 1), 48);
        due.is("its second lot", x.lot(0, 4, 1, 1), 24);
        due.is("its day", x.lot(0, 4, 1, 0), 1);
        due.is("short", x.at(1, 4, 0), -84);
        due.is("its first lot", x.lot(1, 4, 0, 1), -60);
        due.is("its second lot", x.lot(1, 4, 1, 1), -24);
        due.is("lender's long", x.at(3, 4, 0), 12);
        due.is("fails as they were", x.at(1, 4, 9), 3);
        due.is("shares of trades as they were", x.issue(4, 8), 42);
        due.is("the book as it was", x.book(0, 5), 6);
        due.is("another issue", x.issue(3, 0), 100);
        due.is("split(4, 5)", x.split(4, 5), true);
        due.is("price", x.issue(4, 0), 6);
        due.is("long", x.at(0, 4, 0), 360);
        due.is("split(4, 3): marked is 10", x.split(4, 3), false);
        due.is("night", x.night(1), 1);
        due.is("split(4, 3)", x.split(4, 3), true);
        due.is("price", x.issue(4, 0), 2);
        due.is("split(4, 4)", x.split(4, 4), false);
    }

    private static void splitRefused() {
        RollingNets x = new RollingNets();
        x.tell(0, 0, 0, 3);
        for (int n = -1; n <= 7; n++) {
            // 3 is no divisor of 100.
            boolean can = n == 2 || n == 4 || n == 5;
            RollingNets fresh = new RollingNets();
            due.is("split(0, " + n + ")", fresh.split(0, n), can);
            due.is("price", fresh.issue(0, 0), can ? 100 / n : 100);
        }
        due.is("split(0, 10)", x.split(0, 10), false);
        due.is("split(0, MIN)", x.split(0, Integer.MIN_VALUE), false);
        due.is("split(-1, 2)", x.split(-1, 2), false);
        due.is("split(6, 2)", x.split(6, 2), false);
        x.price(0, 90);
        due.is("split by 3: marked is 100", x.split(0, 3), false);
        due.is("split by 4: price is 90", x.split(0, 4), false);
        due.is("split by 5", x.split(0, 5), true);
        due.is("price", x.issue(0, 0), 18);
        due.is("marked", x.issue(0, 1), 20);

        RollingNets y = new RollingNets();
        y.trade(0, 1, 2, 1, 1);
        due.is("split with a trade open", y.split(2, 2), false);
        due.is("split of another issue", y.split(3, 2), true);
        y.night(3);
        due.is("split with lots", y.split(2, 2), true);

        RollingNets z = new RollingNets();
        z.set(1, 0);
        z.apart(0, 1, 2, 1, 1);
        due.is("split with a trade apart open", z.split(2, 2), false);
        z.tell(1, 2, 0, 1);
        z.night(1);
        due.is("split when it is done", z.split(2, 2), true);

        RollingNets w = new RollingNets();
        w.set(1, 0);
        w.trade(0, 1, 2, 10, 100);
        w.night(5);
        due.is("give", w.give(0, 2, 4), 0);
        due.is("split with a notice open", w.split(2, 2), false);
        due.is("split of another issue", w.split(1, 2), true);
        w.night(2);
        due.is("the notice is closed", w.notice(0, 4), 0);
        due.is("split", w.split(2, 2), true);
    }

    /** Any number would be above 99999999: each of the five that are multiplied. */
    private static void splitBounds() {
        for (int what = 0; what <= 2; what++) {
            RollingNets x = new RollingNets();
            x.tell(5, 0, what, 99999);
            // 4 * 5 * 5 * 5 * 2 = 1000: 99999000; 5, 5, 5, 4, 2 bring 100 to 1 only with new prices.
            int[] by = {5, 5, 5, 4, 2};
            for (int n : by) {
                x.price(0, 100);
                x.night(1);
                due.is("split by " + n, x.split(0, n), true);
            }
            due.is("at", x.at(5, 0, what == 0 ? 1 : what + 2), 99999000);
            x.price(0, 100);
            x.night(1);
            due.is("split beyond 99999999", x.split(0, 2), false);
            due.is("price as it was", x.issue(0, 0), 100);
            x.tell(5, 0, what, 99999);
            due.is("split", x.split(0, 2), true);
        }
        splitPosition();
        splitLent();
        splitNotThere();
        splitJustBounds();
    }

    private static void splitPosition() {
        RollingNets x = new RollingNets();
        x.set(1, 0);
        for (int k = 0; k < 10; k++) {
            x.trade(0, 1, 0, 9999, 100);
        }
        int[] by = {5, 5, 5, 4, 2};
        for (int n : by) {
            x.price(0, 100);
            x.night(1);
            due.is("split by " + n, x.split(0, n), true);
        }
        due.is("position", x.at(0, 0, 0), 99990000);
        due.is("position", x.at(1, 0, 0), -99990000);
        x.price(0, 100);
        x.night(1);
        due.is("split of a position beyond 99999999", x.split(0, 2), false);
    }

    private static void splitLent() {
        RollingNets x = new RollingNets();
        x.set(1, 0);
        for (int k = 0; k < 10; k++) {
            x.trade(0, 1, 0, 9999, 100);
        }
        x.tell(2, 0, 0, 99990);
        x.tell(2, 0, 2, 99990);
        x.night(3);
        due.is("lent", x.at(2, 0, 5), 99990);
        // The lender sells what it is to get and tells its numbers away: what it has LENT stays.
        for (int k = 0; k < 10; k++) {
            x.trade(1, 2, 0, 9999, 100);
        }
        x.night(1);
        due.is("lender's position", x.at(2, 0, 0), 0);
        due.is("seller's position", x.at(1, 0, 0), 0);
        x.tell(2, 0, 0, 0);
        x.tell(2, 0, 2, 0);
        x.tell(0, 0, 0, 0);
        int[] by = {5, 5, 5, 4, 2};
        for (int n : by) {
            x.price(0, 100);
            x.night(1);
            due.is("split by " + n, x.split(0, n), true);
        }
        due.is("lent", x.at(2, 0, 5), 99990000);
        x.price(0, 100);
        x.night(1);
        due.is("split of what is lent beyond 99999999", x.split(0, 2), false);
    }

    private static void splitNotThere() {
        RollingNets x = new RollingNets();
        x.tell(5, 0, 0, 99999);
        x.set(0, 5);
        int[] by = {5, 5, 5, 4, 2, 2};
        for (int n : by) {
            x.price(0, 100);
            x.night(1);
            due.is("split by " + n + ", the rich one not there", x.split(0, n), true);
        }
        x.set(0, 6);
        due.is("its stock as it was", x.at(5, 0, 1), 99999);
    }

    /** 99999999 can be, 100000000 can't; a number of one not there bars nothing. */
    private static void splitJustBounds() {
        RollingNets x = new RollingNets();
        x.tell(0, 0, 0, 33333);
        int[] by = {5, 5, 5, 4, 2};
        splitAll(x, by);
        x.tell(1, 0, 0, 333);
        due.is("move", x.move(1, 0, 0, 333), true);
        due.is("stock", x.at(0, 0, 1), 33333333);
        x.price(0, 60);
        x.night(1);
        due.is("split to 133333332", x.split(0, 4), false);
        due.is("split to 99999999", x.split(0, 3), true);
        due.is("stock", x.at(0, 0, 1), 99999999);

        RollingNets y = new RollingNets();
        y.tell(0, 0, 2, 50000);
        int[] less = {5, 5, 5, 4};
        splitAll(y, less);
        y.price(0, 60);
        y.night(1);
        due.is("split to 100000000", y.split(0, 4), false);
        due.is("split to 75000000", y.split(0, 3), true);

        RollingNets z = new RollingNets();
        z.tell(5, 0, 1, 99999);
        splitAll(z, by);
        due.is("split beyond 99999999", z.split(0, 2), false);
        z.set(0, 5);
        z.price(0, 60);
        z.night(1);
        due.is("split, the rich one not there", z.split(0, 2), true);
        z.set(0, 6);
        due.is("its number as it was", z.at(5, 0, 3), 99999000);
    }

    private static void splitAll(RollingNets x, int[] by) {
        for (int n : by) {
            x.price(0, 100);
            x.night(1);
            due.is("split by " + n, x.split(0, n), true);
        }
    }

    private static void suspend() {
        RollingNets x = new RollingNets();
        due.is("suspend(0)", x.suspend(0, true), true);
        due.is("suspend(5)", x.suspend(5, true), true);
        due.is("look(17)", x.look(17), 33);
        due.is("again", x.suspend(5, true), true);
        due.is("look(17)", x.look(17), 33);
        due.is("suspend(0, false)", x.suspend(0, false), true);
        due.is("look(17)", x.look(17), 32);
        due.is("not suspended", x.suspend(1, false), true);
        due.is("suspend(-1)", x.suspend(-1, true), false);
        due.is("suspend(6)", x.suspend(6, false), false);
        due.is("look(17)", x.look(17), 32);
    }

    private static void suspendedIsNotFree() {
        RollingNets x = new RollingNets();
        x.tell(0, 0, 0, 10);
        x.tell(0, 0, 2, 10);
        due.is("free", x.at(0, 0, 2), 10);
        x.suspend(0, true);
        due.is("free when suspended", x.at(0, 0, 2), 0);
        due.is("could lend", x.at(0, 0, 8), 0);
        due.is("stock", x.at(0, 0, 1), 10);
        x.suspend(0, false);
        due.is("free again", x.at(0, 0, 2), 10);
        due.is("could lend again", x.at(0, 0, 8), 10);
    }

    private static void collateral() {
        RollingNets x = new RollingNets();
        due.is("collateral(5, 9999999)", x.collateral(5, 9999999), true);
        due.is("margin", x.margin(5, 1), 9999999);
        due.is("beyond", x.collateral(5, 10000000), false);
        due.is("below", x.collateral(5, -1), false);
        due.is("nobody", x.collateral(6, 5), false);
        due.is("nobody", x.collateral(-1, 5), false);
        due.is("margin", x.margin(5, 1), 9999999);
        due.is("of another", x.margin(4, 1), 0);
        due.is("collateral(5, 0)", x.collateral(5, 0), true);
        due.is("margin", x.margin(5, 1), 0);
    }
}
