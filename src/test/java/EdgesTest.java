/**
 * Promises 2 to 36, one by one: what each call answers at the first and the last of what can be, and what it answers
 * just beyond them and far beyond them, one argument at a time.
 */
public final class EdgesTest {
    private static final Due due = new Due();
    private static final int NONE = -1;
    private static final int[] WHAT_BEYOND = {Integer.MIN_VALUE, -1000000, -2, -1, 1000000, Integer.MAX_VALUE};

    public static void main(String[] args) {
        tell();
        price();
        trades();
        dividend();
        move();
        split();
        suspendAndCollateral();
        night();
        give();
        call();
        fault();
        at();
        lot();
        cash();
        deal();
        notice();
        issue();
        book();
        margin();
        stress();
        queue();
        aged();
        statement();
        tomorrow();
        ahead();
        reached();
        image();
        look();
        fiveHundredAndTwelve();
        due.end();
    }

    /**
     * Seven members on DAY 1. 6 waits for 7 of ISSUE 5, which 0 owes; 6 waits for 4 APART of 5; it has given a NOTICE
     * for each. 1 has 20, 5 of them RESERVED, and LENDS 9.
     */
    private static RollingNets house() {
        RollingNets x = Make.quick();
        x.set(0, 7);
        x.set(4, 3);
        x.trade(6, 0, 5, 10, 90);
        x.apart(6, 5, 5, 4, 80);
        x.tell(0, 5, 0, 3);
        x.night(1);
        x.give(6, 5, 7);
        x.call(1);
        x.tell(1, 5, 0, 20);
        x.tell(1, 5, 1, 5);
        x.tell(1, 5, 2, 9);
        return x;
    }

    private static void row(String call, int[] got, int... want) {
        due.is(call + ": how many", got.length, want.length);
        for (int what = 0; what < want.length && what < got.length; what++) {
            due.is(call + " what " + what, got[what], want[what]);
        }
    }

    // Promise 3

    private static void tell() {
        RollingNets x = house();
        for (int what = 0; what <= 2; what++) {
            for (int v : new int[] {0, 1, 99998, 99999}) {
                due.is("tell(6, 5, " + what + ", " + v + ")", x.tell(6, 5, what, v), true);
                due.is("at", x.at(6, 5, what == 0 ? 1 : what + 2), v);
            }
            for (int v : Make.beyond(0, 99999)) {
                due.is("tell(6, 5, " + what + ", " + v + ")", x.tell(6, 5, what, v), false);
            }
            for (int issue : Make.beyond(0, 5)) {
                due.is("tell(6, " + issue + ", " + what + ", 1)", x.tell(6, issue, what, 1), false);
            }
            for (int member : Make.beyond(0, 6)) {
                due.is("tell(" + member + ", 5, " + what + ", 1)", x.tell(member, 5, what, 1), false);
            }
            due.is("as it was", x.at(6, 5, what == 0 ? 1 : what + 2), 99999);
        }
        for (int issue : Make.beyond(0, 5)) {
            due.is("rank: issue not asked", x.tell(6, issue, 3, 9), true);
        }
        for (int member : Make.beyond(0, 6)) {
            due.is("rank of " + member, x.tell(member, 0, 3, 1), false);
        }
        for (int what : Make.beyond(0, 3)) {
            due.is("tell(6, 5, " + what + ", 1)", x.tell(6, 5, what, 1), false);
        }
    }

    // Promise 4

    private static void price() {
        RollingNets x = house();
        for (int issue : Make.beyond(0, 5)) {
            due.is("price(" + issue + ", 7)", x.price(issue, 7), false);
        }
        for (int p : Make.beyond(1, 9999)) {
            due.is("price(0, " + p + ")", x.price(0, p), false);
            due.is("price(5, " + p + ")", x.price(5, p), false);
        }
        due.is("price(0, 1)", x.price(0, 1), true);
        due.is("price(5, 9999)", x.price(5, 9999), true);
        due.is("issue(0, 0)", x.issue(0, 0), 1);
        due.is("issue(5, 0)", x.issue(5, 0), 9999);
    }

    // Promises 5 and 6

    private static void trades() {
        RollingNets x = house();
        for (int sort = 0; sort < 2; sort++) {
            for (int b : Make.beyond(0, 6)) {
                due.is("buyer " + b, trade(x, sort, b, 0, 0, 1, 1), NONE);
                due.is("seller " + b, trade(x, sort, 0, b, 0, 1, 1), NONE);
                due.is("both " + b, trade(x, sort, b, b, 0, 1, 1), NONE);
            }
            for (int i : Make.beyond(0, 5)) {
                due.is("issue " + i, trade(x, sort, 0, 1, i, 1, 1), NONE);
            }
            for (int n : Make.beyond(1, 9999)) {
                due.is("shares " + n, trade(x, sort, 0, 1, 0, n, 1), NONE);
                due.is("price " + n, trade(x, sort, 0, 1, 0, 1, n), NONE);
            }
            due.is("unlike", trade(x, sort, 6, 6, 0, 1, 1), NONE);
            due.is("the last of all", trade(x, sort, 6, 5, 5, 9999, 9999), 2 + 2 * sort);
            due.is("the first of all", trade(x, sort, 0, 6, 0, 1, 1), 3 + 2 * sort);
        }
        due.is("look(7)", x.look(7), 6);
    }

    private static int trade(RollingNets x, int sort, int b, int s, int i, int n, int p) {
        return sort == 0 ? x.trade(b, s, i, n, p) : x.apart(b, s, i, n, p);
    }

    // Promise 7

    private static void dividend() {
        RollingNets x = house();
        for (int issue : Make.beyond(0, 5)) {
            due.is("dividend(" + issue + ", 1)", x.dividend(issue, 1), false);
        }
        for (int v : Make.beyond(0, 99)) {
            due.is("dividend(5, " + v + ")", x.dividend(5, v), false);
        }
        due.is("none told", x.tomorrow(1, 5, 9), 0);
        due.is("dividend(0, 99)", x.dividend(0, 99), true);
        due.is("dividend(5, 0)", x.dividend(5, 0), true);
        due.is("dividend(5, 1)", x.dividend(5, 1), true);
        due.is("told", x.tomorrow(1, 5, 9), 20);
    }

    // Promise 8

    private static void move() {
        RollingNets x = house();
        for (int member : Make.beyond(0, 6)) {
            due.is("from " + member, x.move(member, 0, 5, 1), false);
            due.is("to " + member, x.move(1, member, 5, 1), false);
        }
        for (int issue : Make.beyond(0, 5)) {
            due.is("of issue " + issue, x.move(1, 0, issue, 1), false);
        }
        for (int n : Make.beyond(1, 15)) {
            due.is("so many: " + n, x.move(1, 0, 5, n), false);
        }
        due.is("unlike members", x.move(1, 1, 5, 1), false);
        due.is("who has none", x.move(2, 1, 5, 1), false);
        due.is("another issue", x.move(1, 2, 4, 1), false);
        due.is("move(1, 6, 5, 1)", x.move(1, 6, 5, 1), true);
        due.is("move(1, 0, 5, 14)", x.move(1, 0, 5, 14), true);
        due.is("no more", x.move(1, 0, 5, 1), false);
        due.is("left", x.at(1, 5, 1), 5);
        due.is("came", x.at(6, 5, 1), 4);
        due.is("came", x.at(0, 5, 1), 14);
    }

    // Promise 9

    private static void split() {
        RollingNets x = house();
        for (int n = -1; n <= 6; n++) {
            due.is("of the issue with a trade open", x.split(5, n), false);
        }
        for (int issue : Make.beyond(0, 5)) {
            due.is("split(" + issue + ", 2)", x.split(issue, 2), false);
        }
        for (int n : Make.beyond(2, 5)) {
            due.is("split(4, " + n + ")", x.split(4, n), false);
        }
        due.is("no multiple", x.split(4, 3), false);
        due.is("split(4, 2)", x.split(4, 2), true);
        due.is("split(0, 5)", x.split(0, 5), true);
        due.is("prices", x.issue(4, 0) + x.issue(0, 0), 70);
    }

    // Promises 10 and 11

    private static void suspendAndCollateral() {
        RollingNets x = house();
        for (int member : Make.beyond(0, 6)) {
            due.is("suspend(" + member + ", true)", x.suspend(member, true), false);
            due.is("suspend(" + member + ", false)", x.suspend(member, false), false);
            due.is("collateral(" + member + ", 1)", x.collateral(member, 1), false);
        }
        due.is("look(17)", x.look(17), 0);
        due.is("not, when it was not", x.suspend(0, false), true);
        due.is("the first", x.suspend(0, true), true);
        due.is("the last", x.suspend(6, true), true);
        due.is("again", x.suspend(6, true), true);
        due.is("look(17)", x.look(17), 65);
        due.is("not any more", x.suspend(0, false), true);
        due.is("look(17)", x.look(17), 64);
        due.is("the first", x.collateral(0, 0), true);
        due.is("the last", x.collateral(6, 9999999), true);
        due.is("margin", x.margin(6, 1), 9999999);
    }

    // Promise 12

    private static void night() {
        RollingNets x = house();
        for (int n : Make.beyond(1, 20)) {
            due.is("night(" + n + ")", x.night(n), NONE);
        }
        due.is("day", x.look(6), 1);
        due.is("night(20)", x.night(20), 20);
        due.is("night(1)", x.night(1), 1);
        due.is("day", x.look(6), 22);
    }

    // Promise 13

    private static void give() {
        RollingNets x = Make.quick();
        x.set(0, 7);
        x.trade(6, 0, 5, 10, 90);
        x.night(1);
        for (int member : Make.beyond(0, 6)) {
            due.is("give(" + member + ", 5, 1)", x.give(member, 5, 1), NONE);
        }
        for (int issue : Make.beyond(0, 5)) {
            due.is("give(6, " + issue + ", 1)", x.give(6, issue, 1), NONE);
        }
        for (int n : Make.beyond(1, 10)) {
            due.is("give(6, 5, " + n + ")", x.give(6, 5, n), NONE);
        }
        due.is("who owes", x.give(0, 5, 1), NONE);
        due.is("who waits for none", x.give(5, 5, 1), NONE);
        due.is("another issue", x.give(6, 4, 1), NONE);
        due.is("none given", x.look(8), 0);
        due.is("give(6, 5, 10)", x.give(6, 5, 10), 0);
        due.is("give(6, 5, 1)", x.give(6, 5, 1), NONE);
    }

    // Promise 14

    private static void call() {
        RollingNets x = Make.quick();
        x.trade(0, 1, 0, 10, 90);
        x.apart(0, 1, 0, 10, 90);
        x.night(1);
        for (int trade : Make.beyond(0, 1)) {
            due.is("call(" + trade + ")", x.call(trade), NONE);
        }
        due.is("not apart", x.call(0), NONE);
        due.is("none given", x.look(8), 0);
        due.is("apart", x.call(1), 0);
        due.is("once", x.call(1), NONE);
    }

    // Promise 18

    private static void fault() {
        RollingNets x = new RollingNets();
        for (int again = 0; again < 2; again++) {
            for (int what : Make.beyond(0, 1)) {
                due.is("fault(" + what + ")", x.fault(what), NONE);
            }
            due.is("fault(0)", x.fault(0), again);
            due.is("fault(1)", x.fault(1), again == 0 ? NONE : 3);
            Make.tape(x, "   #");
            due.is("plan", x.plan(), NONE);
        }
    }

    // Promises 20 and 32

    private static int[] at(RollingNets x, int member, int issue) {
        int[] all = new int[10];
        for (int what = 0; what < all.length; what++) {
            all[what] = x.at(member, issue, what);
        }
        return all;
    }

    private static void at() {
        RollingNets x = house();
        row("at(6, 5, ..)", at(x, 6, 5), 7, 3, 3, 0, 0, 0, 1, 0, 0, 0);
        row("at(0, 5, ..)", at(x, 0, 5), -7, 0, 0, 0, 0, 0, 1, 0, 0, 1);
        row("at(1, 5, ..)", at(x, 1, 5), 0, 20, 15, 5, 9, 0, 0, NONE, 9, 0);
        row("at(0, 0, ..)", at(x, 0, 0), 0, 0, 0, 0, 0, 0, 0, NONE, 0, 0);
        for (int what = 0; what <= 9; what++) {
            for (int member : Make.beyond(0, 6)) {
                due.is("at(" + member + ", 5, " + what + ")", x.at(member, 5, what), Make.NOTHING);
            }
            for (int issue : Make.beyond(0, 5)) {
                due.is("at(6, " + issue + ", " + what + ")", x.at(6, issue, what), Make.NOTHING);
            }
        }
        for (int what : Make.beyond(0, 9)) {
            due.is("at(6, 5, " + what + ")", x.at(6, 5, what), Make.NOTHING);
        }
    }

    private static void tomorrow() {
        RollingNets x = house();
        x.tell(0, 5, 0, 2);
        // 0 delivers 2 of 7.
        int[] want = {5, 5, 5, 0, 0, 0, 1, 0, 0, -200};
        int[] other = {-5, 0, 0, 0, 0, 0, 1, 0, 0, 200};
        for (int what = 0; what <= 9; what++) {
            due.is("tomorrow(6, 5, " + what + ")", x.tomorrow(6, 5, what), want[what]);
            due.is("tomorrow(0, 5, " + what + ")", x.tomorrow(0, 5, what), other[what]);
        }
        due.is("tomorrow(0, 0, 7)", x.tomorrow(0, 0, 7), NONE);
        due.is("cash of the member, whatever the issue", x.tomorrow(0, 0, 9), 200);
        for (int what = 0; what <= 9; what += 3) {
            for (int member : Make.beyond(0, 6)) {
                due.is("tomorrow(" + member + ", 5, " + what + ")", x.tomorrow(member, 5, what), Make.NOTHING);
            }
            for (int issue : Make.beyond(0, 5)) {
                due.is("tomorrow(6, " + issue + ", " + what + ")", x.tomorrow(6, issue, what), Make.NOTHING);
            }
        }
        for (int what : Make.beyond(0, 9)) {
            due.is("tomorrow(6, 5, " + what + ")", x.tomorrow(6, 5, what), Make.NOTHING);
        }
    }

    // Promise 21

    private static void lot() {
        RollingNets x = house();
        x.trade(6, 0, 5, 2, 90);
        x.night(1);
        int[][] want = {{0, 7, -7}, {1, 2, -2}};
        for (int i = 0; i < 2; i++) {
            due.is("lot(6, 5, " + i + ", 0)", x.lot(6, 5, i, 0), want[i][0]);
            due.is("lot(6, 5, " + i + ", 1)", x.lot(6, 5, i, 1), want[i][1]);
            due.is("lot(0, 5, " + i + ", 0)", x.lot(0, 5, i, 0), want[i][0]);
            due.is("lot(0, 5, " + i + ", 1)", x.lot(0, 5, i, 1), want[i][2]);
            for (int what : Make.beyond(0, 1)) {
                due.is("lot(6, 5, " + i + ", " + what + ")", x.lot(6, 5, i, what), NONE);
            }
        }
        for (int what = 0; what < 2; what++) {
            for (int i : Make.beyond(0, 1)) {
                due.is("lot(6, 5, " + i + ", " + what + ")", x.lot(6, 5, i, what), NONE);
                due.is("lot(0, 5, " + i + ", " + what + ")", x.lot(0, 5, i, what), NONE);
            }
            for (int member : Make.beyond(0, 6)) {
                due.is("lot(" + member + ", 5, 0, " + what + ")", x.lot(member, 5, 0, what), NONE);
            }
            for (int issue : Make.beyond(0, 5)) {
                due.is("lot(6, " + issue + ", 0, " + what + ")", x.lot(6, issue, 0, what), NONE);
            }
            due.is("who has none", x.lot(1, 5, 0, what), NONE);
            due.is("another issue", x.lot(6, 4, 0, what), NONE);
        }
    }

    // Promise 22

    private static void cash() {
        RollingNets x = house();
        due.is("cash(0)", x.cash(0), 200);
        due.is("cash(6)", x.cash(6), -200);
        due.is("cash(1)", x.cash(1), 0);
        for (int member : Make.beyond(0, 6)) {
            due.is("cash(" + member + ")", x.cash(member), 0);
        }
    }

    // Promise 23

    private static void deal() {
        RollingNets x = house();
        int[][] want = {{6, 0, 5, 10, 90, 0, 0, 0}, {6, 5, 5, 4, 80, 1, 0, 4}};
        for (int trade = 0; trade < 2; trade++) {
            for (int what = 0; what < 8; what++) {
                due.is("deal(" + trade + ", " + what + ")", x.deal(trade, what), want[trade][what]);
            }
            for (int what : Make.beyond(0, 7)) {
                due.is("deal(" + trade + ", " + what + ")", x.deal(trade, what), NONE);
            }
        }
        for (int trade : Make.beyond(0, 1)) {
            for (int what = 0; what < 8; what++) {
                due.is("deal(" + trade + ", " + what + ")", x.deal(trade, what), NONE);
            }
        }
        due.is("none at all", new RollingNets().deal(0, 0), NONE);
    }

    // Promise 24

    private static void notice() {
        RollingNets x = house();
        due.notice(x, 0, 6, 5, 7, 4, 1, -1, 0, 7, 0, 0, 0, 0, 0, 0);
        due.notice(x, 1, 6, 5, 4, 4, 1, 1, 0, 0, 0, 0, 0, 0, 0, 0);
        for (int i = 0; i < 2; i++) {
            for (int what : new int[] {7, 8, 9, 17, 18, 19, 20, 21, 22, 23}) {
                due.is("notice(" + i + ", " + what + ")", x.notice(i, what), NONE);
            }
            for (int what : WHAT_BEYOND) {
                due.is("notice(" + i + ", " + what + ")", x.notice(i, what), NONE);
            }
        }
        for (int i : Make.beyond(0, 1)) {
            for (int what = 0; what <= 16; what += what == 6 ? 4 : 1) {
                due.is("notice(" + i + ", " + what + ")", x.notice(i, what), NONE);
            }
        }
        due.is("none at all", new RollingNets().notice(0, 10), NONE);
    }

    // Promise 25

    private static void issue() {
        RollingNets x = house();
        int[] want = {100, 100, 7, 7, 23, 0, 4, 2, 14};
        int[] other = {100, 100, 0, 0, 0, NONE, 0, 0, 0};
        for (int what = 0; what <= 8; what++) {
            due.is("issue(5, " + what + ")", x.issue(5, what), want[what]);
            due.is("issue(0, " + what + ")", x.issue(0, what), other[what]);
            for (int issue : Make.beyond(0, 5)) {
                due.is("issue(" + issue + ", " + what + ")", x.issue(issue, what), NONE);
            }
        }
        for (int what : Make.beyond(0, 8)) {
            due.is("issue(5, " + what + ")", x.issue(5, what), NONE);
        }
    }

    // Promise 26

    private static void book() {
        RollingNets x = house();
        due.line(x, 0, 0, 0, 5, 0, -1, 3);
        due.line(x, 1, 0, 1, 5, -1, 6, 3);
        for (int i = 0; i < 2; i++) {
            for (int what : Make.beyond(0, 5)) {
                due.is("book(" + i + ", " + what + ")", x.book(i, what), NONE);
            }
        }
        for (int i : Make.beyond(0, 1)) {
            for (int what = 0; what <= 5; what++) {
                due.is("book(" + i + ", " + what + ")", x.book(i, what), NONE);
            }
        }
    }

    // Promise 27

    private static void margin() {
        RollingNets x = house();
        x.collateral(0, 100);
        long[] want = {105, 100, 5};
        for (int what = 0; what <= 2; what++) {
            due.is("margin(0, " + what + ")", x.margin(0, what), want[what]);
            due.is("margin(6, " + what + ")", x.margin(6, what), what == 1 ? 0 : 70);
            due.is("margin(1, " + what + ")", x.margin(1, what), 0);
            for (int member : Make.beyond(0, 6)) {
                due.is("margin(" + member + ", " + what + ")", x.margin(member, what), NONE);
            }
        }
        for (int what : Make.beyond(0, 2)) {
            due.is("margin(0, " + what + ")", x.margin(0, what), NONE);
        }
    }

    // Promise 28

    private static void stress() {
        RollingNets x = house();
        due.is("stress(-99)", x.stress(-99), 64);
        due.is("stress(0)", x.stress(0), 64);
        due.is("stress(99)", x.stress(99), 1);
        for (int p : Make.beyond(-99, 99)) {
            due.is("stress(" + p + ")", x.stress(p), NONE);
        }
    }

    // Promise 29

    private static void queue() {
        RollingNets x = house();
        int[] want = {6, 0, 7};
        for (int what = 0; what <= 2; what++) {
            due.is("queue(5, 0, " + what + ")", x.queue(5, 0, what), want[what]);
            due.is("queue(5, -1, " + what + ")", x.queue(5, -1, what), 1);
            due.is("queue(0, -1, " + what + ")", x.queue(0, -1, what), 0);
            due.is("queue(0, 0, " + what + ")", x.queue(0, 0, what), NONE);
            for (int i : Make.beyond(0, 0)) {
                due.is("queue(5, " + i + ", " + what + ")", x.queue(5, i, what), i == NONE ? 1 : NONE);
            }
            for (int issue : Make.beyond(0, 5)) {
                due.is("queue(" + issue + ", 0, " + what + ")", x.queue(issue, 0, what), NONE);
                due.is("queue(" + issue + ", -1, " + what + ")", x.queue(issue, -1, what), NONE);
            }
        }
        for (int what : Make.beyond(0, 2)) {
            due.is("queue(5, 0, " + what + ")", x.queue(5, 0, what), NONE);
            due.is("how many, whatever the what", x.queue(5, -1, what), 1);
        }
    }

    // Promise 30

    private static void aged() {
        RollingNets x = house();
        due.is("aged(5, 0)", x.aged(5, 0), 7);
        due.is("aged(5, 1)", x.aged(5, 1), 7);
        due.is("aged(5, 2)", x.aged(5, 2), 0);
        due.is("aged(5, 99)", x.aged(5, 99), 0);
        due.is("aged(0, 0)", x.aged(0, 0), 0);
        for (int days : Make.beyond(0, 99)) {
            due.is("aged(5, " + days + ")", x.aged(5, days), NONE);
        }
        for (int issue : Make.beyond(0, 5)) {
            due.is("aged(" + issue + ", 0)", x.aged(issue, 0), NONE);
        }
    }

    // Promise 31

    private static void statement() {
        RollingNets x = house();
        x.night(3);
        due.is("bought in", x.look(9), 2);
        x.night(1);
        // 1 has lent 7 of its 9 on day 2; nothing was bought in net, 4 were bought in apart on day 4.
        int[] came = {0, 3, 7, 0, 4};
        for (int what = 0; what <= 4; what++) {
            due.is("statement(6, " + what + ", true)", x.statement(6, what, true), came[what]);
            due.is("statement(6, " + what + ", false)", x.statement(6, what, false), 0);
            for (int member : Make.beyond(0, 6)) {
                due.is("statement(" + member + ", " + what + ", true)", x.statement(member, what, true), NONE);
                due.is("statement(" + member + ", " + what + ", false)", x.statement(member, what, false), NONE);
            }
        }
        due.is("statement(0, 0, false)", x.statement(0, 0, false), 3);
        due.is("statement(1, 2, false)", x.statement(1, 2, false), 7);
        due.is("statement(5, 4, false)", x.statement(5, 4, false), 4);
        for (int what : Make.beyond(0, 4)) {
            due.is("statement(6, " + what + ", true)", x.statement(6, what, true), NONE);
            due.is("statement(6, " + what + ", false)", x.statement(6, what, false), NONE);
        }
    }

    // Promise 33

    private static void ahead() {
        RollingNets x = house();
        due.is("ahead(6, 5)", x.ahead(6, 5), 0);
        due.is("who owes", x.ahead(0, 5), NONE);
        due.is("who has none", x.ahead(1, 5), NONE);
        due.is("another issue", x.ahead(6, 4), NONE);
        for (int member : Make.beyond(0, 6)) {
            due.is("ahead(" + member + ", 5)", x.ahead(member, 5), NONE);
        }
        for (int issue : Make.beyond(0, 5)) {
            due.is("ahead(6, " + issue + ")", x.ahead(6, issue), NONE);
        }
    }

    // Promise 34

    private static void reached() {
        RollingNets x = house();
        due.is("reached(1, 0)", x.reached(1, 0), 5);
        due.is("reached(1, 1)", x.reached(1, 1), 1);
        for (int what : Make.beyond(0, 1)) {
            due.is("reached(1, " + what + ")", x.reached(1, what), NONE);
        }
        for (int trade : Make.beyond(0, 1)) {
            due.is("reached(" + trade + ", 0)", x.reached(trade, 0), NONE);
            due.is("reached(" + trade + ", 1)", x.reached(trade, 1), NONE);
        }
        due.is("not apart", x.reached(0, 0), NONE);
        x.trade(6, 0, 5, 10, 90);
        due.is("not apart, open", x.reached(2, 1), NONE);
        x.tell(5, 5, 0, 4);
        x.night(1);
        due.is("done", x.reached(1, 0), NONE);
        due.is("done", x.reached(1, 1), NONE);
    }

    // Promise 35

    private static void image() {
        RollingNets x = house();
        due.is("none", x.image(false), false);
        due.is("as it was", x.at(6, 5, 0), 7);
        due.is("taken", x.image(true), true);
        due.is("taken again", x.image(true), true);
        due.is("gone back to", x.image(false), true);
        due.is("gone back to again", x.image(false), true);
        due.is("as it was", x.at(6, 5, 0), 7);
    }

    // Promise 36

    private static void look() {
        RollingNets x = house();
        x.suspend(6, true);
        Make.tape(x, "call 9;rank 6 6;");
        x.plan();
        x.run(1);
        int[] want = {7, 0, 2, 1, 3, 10, 1, 2, 2, 2, 2, 0, 0, 2, 1, 0, 2, 64, 1, 0};
        for (int what = 0; what < want.length; what++) {
            due.is("look(" + what + ")", x.look(what), want[what]);
        }
        for (int what : Make.beyond(0, 19)) {
            due.is("look(" + what + ")", x.look(what), Make.NOTHING);
        }
    }

    // "An object is used for at most 512 calls after it has been made": the last one of them is one, too.

    private static void fiveHundredAndTwelve() {
        RollingNets x = Make.noLag();
        for (int call = 2; call <= 511; call++) {
            due.is("call " + call, x.price(0, call), true);
        }
        due.is("call 512", x.issue(0, 0), 511);
        RollingNets y = Make.noLag();
        y.trade(0, 1, 0, 10, 100);
        for (int call = 3; call <= 510; call++) {
            due.is("call " + call, y.tomorrow(0, 0, 0), 10);
        }
        due.is("call 511", y.night(1), 1);
        due.is("call 512", y.at(0, 0, 0), 10);
    }
}
