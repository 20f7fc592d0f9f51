/** Promises 13, 14, 24 and 34: notices in net and apart, closing out, and whom one would reach. */
public final class NoticeTest {
    private static final Due due = new Due();

    public static void main(String[] args) {
        give();
        giveWrong();
        giveBounds();
        giveOnce();
        assignedToTheOldest();
        assignedFewer();
        assignedOnTop();
        assignedAfterNetting();
        deliveredTakesOff();
        closeNet();
        closeNetLess();
        closeNetGrace();
        closeNetTwo();
        buyPriceIsCut();
        assignedToTheFirst();
        giveSixty();
        oneShareApart();
        call();
        callWrong();
        closeApart();
        closeApartDone();
        chainGoesOn();
        chainConditions();
        chainIsNoRing();
        chainOfTheOldest();
        chainsOneBehindTheOther();
        reachedWrong();
        due.end();
    }

    private static RollingNets noLag() {
        RollingNets x = new RollingNets();
        x.set(1, 0);
        x.set(3, 1);
        return x;
    }

    private static void give() {
        RollingNets x = noLag();
        x.set(4, 3);
        x.trade(0, 1, 4, 10, 100);
        x.night(1);
        due.is("give", x.give(0, 4, 7), 0);
        due.notice(x, 0, 0, 4, 7, 4, 1, -1, 0, 0, 7, 0, 0, 0, 0);
        due.is("notice(0, 7)", x.notice(0, 7), -1);
        due.is("notice(0, 9)", x.notice(0, 9), -1);
        due.is("notice(0, -1)", x.notice(0, -1), -1);
        due.is("notice(0, 16)", x.notice(0, 16), -1);
        due.is("notice(0, 21)", x.notice(0, 21), -1);
        due.is("notice(0, MAX)", x.notice(0, Integer.MAX_VALUE), -1);
        due.is("notice(1, 0)", x.notice(1, 0), -1);
        due.is("notice(1, 10)", x.notice(1, 10), -1);
        due.is("notice(-1, 0)", x.notice(-1, 0), -1);
        due.is("look(8)", x.look(8), 1);
        due.is("look(9)", x.look(9), 1);
        due.is("no line yet", x.look(10), 0);
    }

    private static void giveWrong() {
        RollingNets x = noLag();
        x.trade(0, 1, 0, 10, 100);
        x.night(1);
        due.is("0 shares", x.give(0, 0, 0), -1);
        due.is("-1 shares", x.give(0, 0, -1), -1);
        due.is("too many", x.give(0, 0, 11), -1);
        due.is("far", x.give(0, 0, Integer.MAX_VALUE), -1);
        due.is("far", x.give(0, 0, Integer.MIN_VALUE), -1);
        due.is("who is short", x.give(1, 0, 1), -1);
        due.is("who has none", x.give(2, 0, 1), -1);
        due.is("nobody", x.give(-1, 0, 1), -1);
        due.is("nobody", x.give(6, 0, 1), -1);
        due.is("no issue", x.give(0, -1, 1), -1);
        due.is("no issue", x.give(0, 6, 1), -1);
        due.is("another issue", x.give(0, 1, 1), -1);
        due.is("look(8)", x.look(8), 0);
        due.is("all", x.give(0, 0, 10), 0);
    }

    /** LONG LOTS of DAY less BUY AGE or ahead. */
    private static void giveBounds() {
        RollingNets x = noLag();
        x.set(3, 2);
        x.trade(0, 1, 0, 10, 100);
        x.night(1);
        x.trade(0, 1, 0, 5, 100);
        due.is("too young", x.give(0, 0, 1), -1);
        x.night(1);
        due.is("more than the old ones", x.give(0, 0, 11), -1);
        x.trade(0, 1, 0, 4, 100);
        x.night(1);
        due.is("more than the old ones", x.give(0, 0, 16), -1);
        due.is("the old ones", x.give(0, 0, 15), 0);
    }

    private static void giveOnce() {
        RollingNets x = noLag();
        x.set(4, 2);
        x.trade(0, 1, 0, 10, 100);
        x.trade(0, 1, 1, 10, 100);
        x.trade(2, 1, 0, 10, 100);
        x.night(1);
        due.is("give", x.give(0, 0, 1), 0);
        due.is("none more in that issue", x.give(0, 0, 1), -1);
        due.is("in another issue", x.give(0, 1, 1), 1);
        due.is("of another member", x.give(2, 0, 1), 2);
        due.is("look(9)", x.look(9), 3);
        x.night(2);
        due.is("still open", x.give(0, 0, 1), -1);
        x.night(1);
        due.is("look(9)", x.look(9), 0);
        due.is("once closed: another one", x.give(0, 0, 1), 3);
        // One apart of the same buyer bars none in net: that one is of a trade.
        RollingNets y = noLag();
        y.trade(0, 1, 0, 10, 100);
        y.apart(0, 2, 0, 10, 100);
        y.night(1);
        due.is("apart", y.call(1), 0);
        due.is("in net, too", y.give(0, 0, 10), 1);
    }

    /** By the least DAY, then by the least MEMBER, LOT by LOT. */
    private static void assignedToTheOldest() {
        RollingNets x = noLag();
        x.set(3, 2);
        x.trade(0, 4, 0, 3, 100);
        x.night(1);
        x.trade(0, 3, 0, 5, 100);
        x.trade(0, 2, 0, 6, 100);
        x.trade(0, 4, 0, 100, 100);
        x.night(1);
        x.trade(0, 1, 0, 50, 100);
        x.night(1);
        x.image(true);
        due.is("give 3", x.give(0, 0, 3), 0);
        due.notice(x, 0, 0, 0, 3, 4, 1, -1, 0, 0, 0, 0, 0, 3, 0);
        x.image(false);
        due.is("give 12", x.give(0, 0, 12), 0);
        due.notice(x, 0, 0, 0, 12, 4, 1, -1, 0, 0, 0, 6, 3, 3, 0);
        x.image(false);
        due.is("give 114", x.give(0, 0, 114), 0);
        due.notice(x, 0, 0, 0, 114, 4, 1, -1, 0, 0, 0, 6, 5, 103, 0);
        x.image(false);
        due.is("more is too young", x.give(0, 0, 115), -1);
        x.night(1);
        due.is("give all", x.give(0, 0, 164), 0);
        due.notice(x, 0, 0, 0, 164, 5, 1, -1, 0, 0, 50, 6, 5, 103, 0);
    }

    /** Not more than is SHORT and not ASSIGNED yet; fewer, if there are no more; none: it can't be given. */
    private static void assignedFewer() {
        RollingNets x = noLag();
        x.set(4, 5);
        x.trade(0, 1, 0, 10, 100);
        x.trade(2, 3, 0, 20, 100);
        x.night(1);
        due.is("give", x.give(0, 0, 10), 0);
        due.notice(x, 0, 0, 0, 10, 6, 1, -1, 0, 0, 10, 0, 0, 0, 0);
        due.is("give", x.give(2, 0, 20), 1);
        due.notice(x, 1, 2, 0, 20, 6, 1, -1, 0, 0, 0, 0, 20, 0, 0);

        RollingNets y = noLag();
        y.set(4, 5);
        y.set(2, 9);
        y.trade(0, 1, 0, 10, 100);
        y.trade(2, 1, 0, 10, 100);
        y.trade(4, 1, 0, 10, 100);
        y.night(1);
        due.is("give", y.give(0, 0, 10), 0);
        due.is("give", y.give(2, 0, 10), 1);
        due.is("give", y.give(4, 0, 3), 2);
        // 1 buys ten of 3, and sells ten to 5: 20 of its 30 are of day 0 then, ten of day 2.
        y.trade(1, 3, 0, 10, 100);
        y.night(1);
        due.is("1 is short", y.at(1, 0, 0), -20);
        due.is("3 is short", y.at(3, 0, 0), -10);
        y.trade(5, 1, 0, 10, 100);
        y.night(1);
        y.night(1);
        // 1 is short 30 again, 23 of it assigned: 7 are left of its lot of day 0, then 3 has ten of day 1.
        due.is("give", y.give(5, 0, 9), 3);
        due.notice(y, 3, 5, 0, 9, 9, 1, -1, 0, 0, 7, 0, 2, 0, 0);
    }

    private static void assignedOnTop() {
        RollingNets x = noLag();
        x.set(4, 5);
        x.set(2, 9);
        x.trade(0, 1, 0, 30, 100);
        x.trade(2, 3, 0, 6, 100);
        x.night(1);
        due.is("give", x.give(0, 0, 28), 0);
        due.notice(x, 0, 0, 0, 28, 6, 1, -1, 0, 0, 28, 0, 0, 0, 0);
        // 1 has two left, 3 its six: 2 asks for six and gets two and four.
        due.is("give", x.give(2, 0, 6), 1);
        due.notice(x, 1, 2, 0, 6, 6, 1, -1, 0, 0, 2, 0, 4, 0, 0);
        // 4 buys five of 5, and 5 five of 1: 1 owes five more.
        x.trade(4, 5, 0, 5, 100);
        x.night(1);
        x.trade(5, 1, 0, 5, 100);
        x.night(1);
        due.is("1 is short", x.at(1, 0, 0), -35);
        due.is("5 is short no more", x.at(5, 0, 0), 0);
        x.trade(1, 0, 0, 30, 100);
        x.night(1);
        due.is("1 is short", x.at(1, 0, 0), -5);
        // 30 of 1 are assigned, it is short 5; 3 has 6, 4 of them assigned: two are left.
        due.is("give 5", x.give(4, 0, 5), 2);
        due.notice(x, 2, 4, 0, 2, 9, 1, -1, 0, 0, 0, 0, 2, 0, 0);
        x.trade(0, 2, 0, 6, 100);
        x.night(1);
        due.is("0 has one open yet", x.give(0, 0, 1), -1);
    }

    /** None to be assigned: it can't be given, though there are old lots. */
    private static void assignedAfterNetting() {
        RollingNets x = noLag();
        x.set(4, 5);
        x.trade(0, 1, 0, 10, 100);
        x.trade(2, 1, 0, 10, 100);
        x.night(1);
        due.is("give", x.give(0, 0, 10), 0);
        x.trade(1, 0, 0, 10, 100);
        x.night(1);
        due.is("1 is short", x.at(1, 0, 0), -10);
        due.is("all that it owes is assigned", x.give(2, 0, 5), -1);
        due.is("look(8)", x.look(8), 1);
        due.notice(x, 0, 0, 0, 10, 6, 1, -1, 0, 0, 10, 0, 0, 0, 0);
        x.night(5);
        // 0 has nothing to get: nothing is bought in, and what is assigned stays told.
        due.notice(x, 0, 0, 0, 10, 6, 0, -1, 0, 0, 10, 0, 0, 0, 0);
        due.is("outside", x.look(11), 0);
        due.is("now it can be given", x.give(2, 0, 5), 1);
    }

    private static void deliveredTakesOff() {
        RollingNets x = noLag();
        x.set(4, 5);
        x.set(2, 9);
        x.trade(0, 1, 0, 10, 100);
        x.trade(2, 1, 0, 10, 100);
        x.trade(3, 1, 0, 10, 100);
        x.trade(0, 1, 1, 10, 100);
        x.night(1);
        due.is("give", x.give(0, 0, 4), 0);
        due.is("give", x.give(2, 0, 6), 1);
        due.is("give", x.give(0, 1, 9), 2);
        x.tell(1, 0, 0, 7);
        x.night(1);
        due.notice(x, 0, 0, 0, 4, 6, 1, -1, 0, 0, 0, 0, 0, 0, 0);
        due.notice(x, 1, 2, 0, 6, 6, 1, -1, 0, 0, 3, 0, 0, 0, 0);
        due.notice(x, 2, 0, 1, 9, 6, 1, -1, 0, 0, 9, 0, 0, 0, 0);
        // What is left of it: of 23 that 1 owes 3 are assigned, 20 are free to be.
        due.is("give", x.give(3, 0, 10), 3);
        due.notice(x, 3, 3, 0, 10, 7, 1, -1, 0, 0, 10, 0, 0, 0, 0);
        x.tell(1, 0, 0, 5);
        x.night(1);
        due.is("by number", x.notice(1, 11), 0);
        due.is("by number", x.notice(3, 11), 8);
        x.night(4);
        due.is("closed", x.notice(1, 4), 0);
        due.is("closed: stays told", x.notice(2, 11), 9);
        due.is("bought in", x.notice(2, 6), 9);
        x.tell(1, 1, 0, 1);
        x.night(1);
        due.is("of a closed one nothing is taken off", x.notice(2, 11), 9);
    }

    private static void closeNet() {
        RollingNets x = noLag();
        x.set(4, 1);
        x.set(5, 25);
        x.trade(0, 1, 2, 10, 100);
        x.trade(0, 3, 2, 20, 100);
        x.price(2, 100);
        x.night(1);
        due.is("give", x.give(0, 2, 25), 0);
        due.notice(x, 0, 0, 2, 25, 2, 1, -1, 0, 0, 10, 0, 15, 0, 0);
        x.night(1);
        due.is("not due", x.notice(0, 4), 1);
        x.price(2, 120);
        x.night(1);
        due.notice(x, 0, 0, 2, 25, 2, 0, -1, 25, 0, 10, 0, 15, 0, 0);
        due.is("stock", x.at(0, 2, 1), 25);
        due.is("long", x.at(0, 2, 0), 5);
        due.is("short", x.at(1, 2, 0), 0);
        due.is("short", x.at(3, 2, 0), -5);
        // Marked at 100 as it is closed, bought at 120 and 30; then what is open is marked at 120.
        due.is("cash of 0", x.cash(0), -2500 + 100);
        due.is("cash of 1", x.cash(1), 1000 - 1500);
        due.is("cash of 3", x.cash(3), 1500 - 15 * 150 - 100);
        due.is("outside", x.look(11), 25 * 150);
        due.is("all cash", x.look(12), -25 * 150);
        due.line(x, 0, 2, 4, 2, 1, 0, 10);
        due.line(x, 1, 2, 4, 2, 3, 0, 15);
        due.is("two lines", x.look(10), 2);
        due.is("look(9)", x.look(9), 0);
        due.is("look(8)", x.look(8), 1);
    }

    /** What is left of it, what is SHORT, what the giver has LONG: as each is then, at most. */
    private static void closeNetLess() {
        RollingNets x = noLag();
        x.set(4, 1);
        x.trade(0, 1, 0, 10, 100);
        x.trade(0, 2, 0, 10, 100);
        x.trade(0, 3, 0, 10, 100);
        x.trade(0, 4, 0, 10, 100);
        x.night(1);
        due.is("give", x.give(0, 0, 40), 0);
        x.trade(2, 5, 0, 7, 100);
        x.tell(1, 0, 0, 4);
        x.trade(5, 0, 0, 12, 100);
        x.night(1);
        // 0 has sold 12 and got 4, and is to get 24.
        due.is("long", x.at(0, 0, 0), 24);
        due.is("1 is short", x.at(1, 0, 0), -6);
        due.is("2 is short", x.at(2, 0, 0), -3);
        due.is("5 is long", x.at(5, 0, 0), 5);
        x.night(1);
        due.notice(x, 0, 0, 0, 40, 2, 0, -1, 24, 0, 6, 10, 10, 10, 0);
        due.line(x, 2, 2, 4, 0, 1, 0, 6);
        due.line(x, 3, 2, 4, 0, 2, 0, 3);
        due.line(x, 4, 2, 4, 0, 3, 0, 10);
        due.line(x, 5, 2, 4, 0, 4, 0, 5);
        due.is("six lines", x.look(10), 6);
        due.is("4 is short yet", x.at(4, 0, 0), -5);
        due.is("0 has nothing to get", x.at(0, 0, 6), 0);
        due.is("stock", x.at(0, 0, 1), 28);
        due.is("outside", x.look(11), 24 * 110);
    }

    private static void closeNetGrace() {
        RollingNets x = noLag();
        x.set(4, 0);
        x.trade(0, 1, 0, 10, 100);
        x.night(1);
        due.is("give", x.give(0, 0, 10), 0);
        due.is("due today", x.notice(0, 3), 1);
        x.night(1);
        due.is("closed", x.notice(0, 4), 0);
        due.is("bought in", x.notice(0, 6), 10);
        due.is("no fail that night", x.at(1, 0, 9), 1);
        due.is("stock", x.at(0, 0, 1), 10);

        RollingNets y = noLag();
        y.set(4, 5);
        y.trade(0, 1, 0, 10, 100);
        y.night(1);
        due.is("give", y.give(0, 0, 10), 0);
        y.set(4, 0);
        y.night(5);
        due.is("as it was given", y.notice(0, 4), 1);
        y.night(1);
        due.is("closed", y.notice(0, 4), 0);
    }

    /** Two of one night, by number: the first takes what the second would have had. */
    private static void closeNetTwo() {
        RollingNets x = noLag();
        x.set(2, 9);
        x.trade(2, 1, 0, 10, 100);
        x.trade(0, 1, 0, 10, 100);
        x.night(1);
        due.is("give", x.give(2, 0, 10), 0);
        due.is("give", x.give(0, 0, 10), 1);
        x.trade(1, 3, 0, 5, 100);
        x.night(2);
        due.is("first", x.notice(0, 6), 10);
        due.is("second", x.notice(1, 6), 5);
        due.is("0 waits on", x.at(0, 0, 0), 5);
        due.is("for 3", x.at(3, 0, 0), -5);
        due.is("lots gone from the first on", x.lot(0, 0, 0, 1), 5);
    }

    private static void buyPriceIsCut() {
        RollingNets x = noLag();
        x.set(4, 0);
        x.set(5, 33);
        x.price(0, 17);
        x.trade(0, 1, 0, 3, 17);
        x.night(1);
        due.is("give", x.give(0, 0, 3), 0);
        x.price(0, 19);
        x.night(1);
        // 19 and 19 * 33 / 100, cut to 6: 25 each.
        due.is("outside", x.look(11), 75);
        due.is("cash of 1", x.cash(1), 3 * 17 - 75);
        due.is("cash of 0", x.cash(0), -3 * 17);
        x.set(5, 0);
        x.trade(0, 1, 0, 2, 19);
        x.night(1);
        due.is("give", x.give(0, 0, 1), 1);
        x.night(1);
        due.is("without a premium", x.look(11), 75 + 19);
    }

    private static void giveSixty() {
        RollingNets x = noLag();
        x.set(4, 0);
        x.trade(0, 1, 0, 100, 100);
        x.night(1);
        for (int k = 0; k < 60; k++) {
            due.is("give", x.give(0, 0, 1), k);
            x.night(1);
        }
        due.is("look(8)", x.look(8), 60);
        due.is("look(9)", x.look(9), 0);
        due.is("60, open or not", x.give(0, 0, 1), -1);
        x.apart(0, 1, 0, 1, 1);
        x.night(2);
        due.is("60, open or not", x.call(1), -1);
        due.is("notice(60, 0)", x.notice(60, 0), -1);
        due.is("long", x.at(0, 0, 0), 40);
    }

    /** Member 0 is one whom shares can be assigned to. */
    private static void assignedToTheFirst() {
        RollingNets x = noLag();
        x.set(4, 1);
        x.trade(5, 0, 0, 10, 100);
        x.trade(4, 1, 0, 10, 100);
        x.night(1);
        due.is("give", x.give(5, 0, 8), 0);
        due.notice(x, 0, 5, 0, 8, 2, 1, -1, 0, 8, 0, 0, 0, 0, 0);
        due.is("give", x.give(4, 0, 10), 1);
        due.notice(x, 1, 4, 0, 10, 2, 1, -1, 0, 2, 8, 0, 0, 0, 0);
        x.tell(0, 0, 0, 9);
        x.night(1);
        due.is("delivered", x.notice(0, 10), 0);
        due.is("delivered", x.notice(1, 10), 1);
        x.night(1);
        due.is("nothing was left of the first", x.notice(0, 6), 0);
        due.is("4 was allotted nine, and waited for one", x.notice(1, 6), 1);
        due.is("bought in of 0", x.statement(0, 4, false), 1);
        due.is("not of 1", x.statement(1, 4, false), 0);
    }

    private static void oneShareApart() {
        RollingNets x = noLag();
        x.set(4, 0);
        x.tell(0, 0, 0, 6);
        x.apart(0, 1, 0, 1, 100);
        x.apart(1, 2, 0, 1, 100);
        x.night(1);
        due.is("reached", x.reached(0, 1), 2);
        due.is("call", x.call(0), 0);
        x.night(1);
        due.is("bought in", x.notice(0, 6), 1);
        due.is("stock: one more", x.at(0, 0, 1), 7);
        due.is("open", x.deal(1, 7), 0);
    }

    private static void call() {
        RollingNets x = noLag();
        x.set(3, 2);
        x.set(4, 3);
        x.set(1, 1);
        x.apart(4, 2, 3, 50, 80);
        x.night(2);
        due.is("due a day ago", x.call(0), -1);
        x.night(1);
        due.is("due two days ago", x.call(0), 0);
        due.notice(x, 0, 4, 3, 50, 6, 1, 0, 0, 0, 0, 0, 0, 0, 0);
        due.is("one is open", x.call(0), -1);
        due.is("look(9)", x.look(9), 1);
        due.is("nothing moved", x.look(10), 0);
        x.night(4);
        due.notice(x, 0, 4, 3, 50, 6, 0, 0, 50, 0, 0, 0, 0, 0, 0);
        due.is("done", x.call(0), -1);
    }

    private static void callWrong() {
        RollingNets x = noLag();
        x.trade(0, 1, 0, 5, 100);
        x.apart(0, 1, 0, 5, 100);
        x.apart(0, 1, 1, 5, 100);
        x.tell(1, 1, 0, 5);
        x.night(4);
        due.is("not apart", x.call(0), -1);
        due.is("done", x.call(2), -1);
        due.is("none such", x.call(3), -1);
        due.is("none such", x.call(-1), -1);
        due.is("none such", x.call(Integer.MAX_VALUE), -1);
        due.is("look(8)", x.look(8), 0);
        due.is("can", x.call(1), 0);
    }

    private static void closeApart() {
        RollingNets x = noLag();
        x.set(4, 0);
        x.set(5, 20);
        x.apart(0, 1, 0, 10, 70);
        x.night(1);
        x.price(0, 60);
        due.is("call", x.call(0), 0);
        x.night(1);
        due.is("stock of the buyer", x.at(0, 0, 1), 10);
        due.is("cash of the buyer", x.cash(0), -700);
        due.is("cash of the seller", x.cash(1), 700 - 720);
        due.is("outside", x.look(11), 720);
        due.is("open", x.deal(0, 7), 0);
        due.is("shares", x.deal(0, 3), 10);
        due.line(x, 0, 1, 4, 0, 1, 0, 10);
        due.is("bought in", x.notice(0, 6), 10);
        due.is("closed", x.notice(0, 4), 0);
    }

    /** If the trade has not as many open any more, nothing is bought in; closed it is. */
    private static void closeApartDone() {
        RollingNets x = noLag();
        x.set(4, 2);
        x.apart(0, 1, 0, 10, 70);
        x.night(1);
        due.is("call", x.call(0), 0);
        x.tell(1, 0, 0, 10);
        x.night(1);
        due.is("done", x.deal(0, 7), 0);
        due.is("open yet", x.notice(0, 4), 1);
        x.night(2);
        due.is("closed", x.notice(0, 4), 0);
        due.is("nothing bought in", x.notice(0, 6), 0);
        due.is("shares stay told", x.notice(0, 2), 10);
        due.is("outside", x.look(11), 0);
        due.is("one line", x.look(10), 1);
    }

    private static void chainGoesOn() {
        RollingNets x = noLag();
        x.set(4, 0);
        x.apart(0, 1, 0, 10, 50);
        x.apart(1, 2, 0, 15, 60);
        x.apart(2, 3, 0, 10, 70);
        x.apart(3, 4, 0, 9, 80);
        x.night(1);
        due.is("the last", x.reached(0, 0), 3);
        due.is("trades", x.reached(0, 1), 3);
        due.is("the last", x.reached(1, 0), 2);
        due.is("trades", x.reached(1, 1), 1);
        due.is("the last", x.reached(2, 0), 3);
        due.is("the last", x.reached(3, 0), 4);
        due.is("call", x.call(0), 0);
        x.night(1);
        int[] open = {0, 5, 0, 9};
        for (int k = 0; k < 4; k++) {
            due.is("open of " + k, x.deal(k, 7), open[k]);
        }
        long[] cash = {-500, -100, -100, 700 - 1100, 0};
        for (int k = 0; k < 5; k++) {
            due.is("cash of " + k, x.cash(k), cash[k]);
        }
        due.line(x, 0, 1, 4, 0, 3, 0, 10);
        due.is("stock of the first buyer", x.at(0, 0, 1), 10);
        due.is("stock of none between", x.at(1, 0, 1), 0);
        due.is("one line", x.look(10), 1);
        due.is("by fewer now", x.reached(1, 1), 1);
        x.apart(2, 5, 0, 5, 1);
        due.is("now it goes on", x.reached(1, 0), 5);
        due.is("trades", x.reached(1, 1), 2);
    }

    /** Of that issue, APART, OPEN with SHARES at least, DUE on the day or ahead. */
    private static void chainConditions() {
        RollingNets x = noLag();
        x.apart(0, 1, 0, 10, 50);
        x.apart(1, 2, 1, 10, 50);
        due.is("another issue", x.reached(0, 1), 1);
        x.trade(1, 2, 0, 10, 50);
        due.is("not apart", x.reached(0, 1), 1);
        x.apart(1, 2, 0, 9, 50);
        due.is("too few", x.reached(0, 1), 1);
        x.set(1, 2);
        x.apart(1, 3, 0, 10, 50);
        due.is("not due", x.reached(0, 1), 1);
        due.is("the first one's own due day counts nothing", x.reached(4, 0), 3);
        x.night(1);
        due.is("not due", x.reached(0, 1), 1);
        x.night(1);
        due.is("due", x.reached(0, 1), 2);
        due.is("due", x.reached(0, 0), 3);
        x.tell(3, 0, 0, 10);
        x.night(1);
        due.is("done", x.deal(4, 7), 0);
        due.is("done", x.reached(4, 0), -1);
        due.is("what 1 got it has not passed on yet", x.reached(0, 0), 1);
        x.night(1);
        due.is("not open any more", x.reached(0, 0), -1);
    }

    /** Whose SELLER is not in the CHAIN yet; the first BUYER is in it, too. */
    private static void chainIsNoRing() {
        RollingNets x = noLag();
        x.set(4, 0);
        x.apart(0, 1, 0, 10, 50);
        x.apart(1, 0, 0, 10, 50);
        due.is("back to the buyer: no", x.reached(0, 0), 1);
        due.is("trades", x.reached(0, 1), 1);
        x.apart(1, 2, 0, 10, 60);
        x.apart(2, 1, 0, 10, 70);
        due.is("back to the seller: no", x.reached(0, 0), 2);
        due.is("trades", x.reached(0, 1), 2);
        x.apart(2, 3, 0, 10, 70);
        x.apart(3, 4, 0, 10, 80);
        x.apart(4, 5, 0, 10, 90);
        x.apart(5, 3, 0, 10, 90);
        due.is("the last", x.reached(0, 0), 5);
        due.is("trades", x.reached(0, 1), 5);
        // From 2 on: 1 and then 0, which has bought of 1 alone; the least due and number goes first.
        due.is("the other way", x.reached(3, 0), 0);
        due.is("trades", x.reached(3, 1), 2);
    }

    private static void chainOfTheOldest() {
        RollingNets x = noLag();
        x.set(1, 2);
        x.apart(1, 2, 0, 10, 50);
        x.set(1, 0);
        x.apart(1, 3, 0, 10, 50);
        x.apart(1, 4, 0, 10, 50);
        x.apart(0, 1, 0, 10, 50);
        x.night(2);
        due.is("the least due, then number", x.reached(3, 0), 3);
        x.tell(3, 0, 0, 10);
        x.night(1);
        // Trade 1 is done: 1 passed its ten on to 0 in the same night; then again.
        due.is("done", x.deal(1, 7), 0);
        due.is("done", x.deal(3, 7), 0);
        x.apart(0, 1, 0, 10, 50);
        due.is("the least due", x.reached(4, 0), 4);
        x.tell(4, 0, 0, 10);
        x.night(1);
        x.apart(0, 1, 0, 10, 50);
        due.is("the one left", x.reached(5, 0), 2);
    }

    /** By number, each as it is then: the second finds what the first has left. */
    private static void chainsOneBehindTheOther() {
        RollingNets x = noLag();
        x.set(4, 1);
        x.apart(0, 2, 0, 10, 50);
        x.apart(1, 2, 0, 10, 50);
        x.apart(2, 3, 0, 15, 50);
        x.apart(2, 4, 0, 10, 50);
        x.night(1);
        due.is("call", x.call(1), 0);
        due.is("call", x.call(0), 1);
        due.is("call", x.call(3), 2);
        x.night(2);
        due.line(x, 0, 2, 4, 0, 3, 1, 10);
        due.line(x, 1, 2, 4, 0, 4, 0, 10);
        due.is("two lines", x.look(10), 2);
        due.is("open", x.deal(2, 7), 5);
        due.is("open", x.deal(3, 7), 0);
        due.is("third: the trade is done", x.notice(2, 6), 0);
        due.is("third: closed", x.notice(2, 4), 0);
        due.is("outside", x.look(11), 20 * 110);
    }

    private static void reachedWrong() {
        RollingNets x = noLag();
        x.set(1, 3);
        x.trade(0, 1, 0, 5, 100);
        x.apart(0, 1, 0, 5, 100);
        due.is("not apart", x.reached(0, 0), -1);
        due.is("apart", x.reached(1, 0), 1);
        due.is("what -1", x.reached(1, -1), -1);
        due.is("what 2", x.reached(1, 2), -1);
        due.is("none such", x.reached(2, 0), -1);
        due.is("none such", x.reached(-1, 0), -1);
        due.is("none such", x.reached(Integer.MIN_VALUE, 1), -1);
        due.is("nothing of it stays", x.look(8), 0);
        due.is("nothing of it stays", x.deal(1, 7), 5);
    }
}
