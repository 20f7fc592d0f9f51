/** Promises 5, 6, 23 and 25: trades, and what is asked of them and of an issue. */
public final class TradeTest {
    private static final Due due = new Due();

    public static void main(String[] args) {
        trade();
        apart();
        wrong(true);
        wrong(false);
        edges();
        twoHundred();
        issueSums();
        due.end();
    }

    private static void deal(RollingNets x, int trade, int... want) {
        for (int what = 0; what < want.length; what++) {
            due.is("deal(" + trade + ", " + what + ")", x.deal(trade, what), want[what]);
        }
        due.is("deal(.., 8)", x.deal(trade, 8), -1);
        due.is("deal(.., -1)", x.deal(trade, -1), -1);
    }

    private static void trade() {
        RollingNets x = new RollingNets();
        due.is("trade", x.trade(5, 3, 4, 120, 87), 0);
        due.is("trade", x.trade(0, 1, 5, 7, 8), 1);
        deal(x, 0, 5, 3, 4, 120, 87, 0, 2, 120);
        deal(x, 1, 0, 1, 5, 7, 8, 0, 2, 7);
        due.is("look(7)", x.look(7), 2);
        due.is("look(15)", x.look(15), 127);
        due.is("deal(2, 0)", x.deal(2, 0), -1);
        due.is("deal(-1, 0)", x.deal(-1, 0), -1);
        due.is("deal(MAX, 0)", x.deal(Integer.MAX_VALUE, 0), -1);
        x.night(2);
        due.is("not due yet", x.at(5, 4, 0), 0);
        x.night(1);
        due.is("netted", x.at(5, 4, 0), 120);
        deal(x, 0, 5, 3, 4, 120, 87, 0, 2, 0);
        due.is("look(15)", x.look(15), 0);
    }

    private static void apart() {
        RollingNets x = new RollingNets();
        x.set(1, 1);
        due.is("apart", x.apart(5, 3, 4, 120, 87), 0);
        due.is("trade", x.trade(5, 3, 4, 1, 1), 1);
        due.is("apart", x.apart(3, 5, 4, 9, 9), 2);
        deal(x, 0, 5, 3, 4, 120, 87, 1, 1, 120);
        deal(x, 1, 5, 3, 4, 1, 1, 0, 1, 1);
        deal(x, 2, 3, 5, 4, 9, 9, 1, 1, 9);
        due.is("look(7)", x.look(7), 3);
        due.is("look(15): not apart alone", x.look(15), 1);
        due.is("issue(4, 6): apart alone", x.issue(4, 6), 129);
        x.night(3);
        due.is("never netted", x.at(5, 4, 0), 1);
        deal(x, 0, 5, 3, 4, 120, 87, 1, 1, 120);
    }

    private static int make(RollingNets x, boolean apart, int b, int s, int i, int n, int p) {
        return apart ? x.apart(b, s, i, n, p) : x.trade(b, s, i, n, p);
    }

    private static void wrong(boolean apart) {
        RollingNets x = new RollingNets();
        int far = Integer.MAX_VALUE;
        due.is("unlike", make(x, apart, 2, 2, 0, 1, 1), -1);
        due.is("buyer", make(x, apart, -1, 0, 0, 1, 1), -1);
        due.is("buyer", make(x, apart, 6, 0, 0, 1, 1), -1);
        due.is("seller", make(x, apart, 0, -1, 0, 1, 1), -1);
        due.is("seller", make(x, apart, 0, 6, 0, 1, 1), -1);
        due.is("issue", make(x, apart, 0, 1, -1, 1, 1), -1);
        due.is("issue", make(x, apart, 0, 1, 6, 1, 1), -1);
        due.is("shares", make(x, apart, 0, 1, 0, 0, 1), -1);
        due.is("shares", make(x, apart, 0, 1, 0, 10000, 1), -1);
        due.is("shares", make(x, apart, 0, 1, 0, -1, 1), -1);
        due.is("price", make(x, apart, 0, 1, 0, 1, 0), -1);
        due.is("price", make(x, apart, 0, 1, 0, 1, 10000), -1);
        due.is("far", make(x, apart, far, -far, far, -far, far), -1);
        due.is("look(7)", x.look(7), 0);
        due.is("edges", make(x, apart, 5, 0, 5, 9999, 9999), 0);
        due.is("edges", make(x, apart, 0, 5, 0, 1, 1), 1);
        x.set(1, 0);
        due.is("of two members", make(x, apart, 0, 5, 0, 1, 1), 2);
    }

    /** Trades on the last day, and with more members. */
    private static void edges() {
        RollingNets x = new RollingNets();
        x.set(0, 12);
        due.is("trade of 11 and 10", x.trade(11, 10, 0, 1, 1), 0);
        due.is("trade of 12", x.trade(12, 10, 0, 1, 1), -1);
        for (int k = 0; k < 5; k++) {
            x.night(20);
        }
        due.is("day", x.look(6), 99);
        x.set(1, 3);
        due.is("trade on day 99", x.trade(1, 2, 0, 1, 1), 1);
        due.is("due", x.deal(1, 6), 102);
        due.is("apart on day 99", x.apart(1, 2, 0, 1, 1), 2);
    }

    private static void twoHundred() {
        RollingNets x = new RollingNets();
        for (int k = 0; k < 200; k++) {
            due.is("trade or apart", make(x, k % 3 == 0, k % 6, (k + 1) % 6, k % 6, 1 + k, 1), k);
        }
        due.is("trade 200", x.trade(0, 1, 0, 1, 1), -1);
        due.is("apart 200", x.apart(0, 1, 0, 1, 1), -1);
        due.is("look(7)", x.look(7), 200);
        due.is("deal(199, 3)", x.deal(199, 3), 200);
        due.is("deal(200, 3)", x.deal(200, 3), -1);
        x.night(3);
        due.is("done or not, they are 200", x.trade(0, 1, 0, 1, 1), -1);
        due.is("issue(0, 7)", x.issue(0, 7), 34);
    }

    private static void issueSums() {
        RollingNets x = new RollingNets();
        x.set(1, 0);
        x.trade(0, 1, 3, 50, 90);
        x.trade(2, 1, 3, 20, 90);
        x.trade(0, 1, 2, 5, 90);
        x.apart(4, 5, 3, 8, 90);
        x.tell(1, 3, 0, 10);
        x.tell(4, 3, 0, 6);
        x.price(3, 95);
        x.night(1);
        x.price(3, 97);
        x.set(1, 2);
        x.trade(0, 1, 3, 7, 90);
        int[] want = {97, 95, 60, 60, 16, 0, 8, 4, 85};
        for (int what = 0; what < want.length; what++) {
            due.is("issue(3, " + what + ")", x.issue(3, what), want[what]);
        }
        due.is("issue(3, 9)", x.issue(3, 9), -1);
        due.is("issue(3, -1)", x.issue(3, -1), -1);
        due.is("issue(-1, 0)", x.issue(-1, 0), -1);
        due.is("issue(6, 0)", x.issue(6, 0), -1);
        due.is("issue(2, 2)", x.issue(2, 2), 5);
        due.is("issue(2, 7)", x.issue(2, 7), 1);
        due.is("issue(2, 8)", x.issue(2, 8), 5);
        due.is("issue(4, 5)", x.issue(4, 5), -1);
        // The eldest lot is that of whoever has the oldest, long or short.
        x.set(1, 0);
        x.trade(1, 2, 3, 60, 90);
        x.trade(0, 4, 3, 3, 90);
        x.night(1);
        // 4 delivers its 3, and the oldest lot gets them.
        due.is("position of 0", x.at(0, 3, 0), 40);
        due.is("position of 1", x.at(1, 3, 0), 0);
        due.is("issue(3, 5): 0 has waited since day 0", x.issue(3, 5), 0);
        x.trade(1, 0, 3, 40, 90);
        x.night(1);
        due.is("issue(3, 5)", x.issue(3, 5), 1);
    }
}
