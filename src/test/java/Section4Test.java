/**
 * The bounds that 'Terms', section 4, names, sentence by sentence: THE BOOK, what is only thought, DIVIDENDS, FAILS,
 * what is MOVED, SPLITS, MARGINS, STRESS, THE QUEUE, AGED, STATEMENTS.
 */
public final class Section4Test {
    private static final Due due = new Due();

    public static void main(String[] args) {
        bookOfThreeHundred();
        bookHasNoMoreThen();
        bookOfEachSort();
        thoughtStaysNot();
        tomorrowIsANight();
        aheadOfTheFirst();
        dividendBounds();
        dividendOfTheNextNight();
        dividendOnStockAndPosition();
        failsOfThoseShortThen();
        moved();
        splitBounds();
        splitMultiples();
        splitWithTrades();
        splitWithNotices();
        splitOfStock();
        splitOfWhatIsTold();
        splitOfLent();
        splitOfPositions();
        splitOfThoseThere();
        collateralBounds();
        haircut();
        demandIsCut();
        lacks();
        stressBounds();
        stressBelowNought();
        queueOneByOne();
        agedDays();
        statements();
        outsideIsAnInt();
        tomorrowsCashIsAnInt();
        due.end();
    }

    // "THE BOOK (300 lines; no more then)"

    /** A book of 288 lines, the first 144 of trades apart, then 12 a NIGHT; 1 owes 0 of each ISSUE. */
    private static RollingNets nearlyFull() {
        RollingNets x = Make.noLag();
        for (int issue = 0; issue < 6; issue++) {
            x.trade(0, 1, issue, 100, 100);
        }
        for (int k = 0; k < 144; k++) {
            x.apart(2, 3, 0, 1, 100);
        }
        x.tell(3, 0, 0, 144);
        x.night(1);
        due.is("lines", x.look(10), 144);
        for (int day = 1; day <= 12; day++) {
            deliverSome(x, 6);
        }
        due.is("lines", x.look(10), 288);
        return x;
    }

    /** Two lines for each of the first ISSUES. */
    private static void deliverSome(RollingNets x, int issues) {
        for (int issue = 0; issue < issues; issue++) {
            x.tell(1, issue, 0, 1);
        }
        x.night(1);
    }

    private static void bookOfThreeHundred() {
        RollingNets x = nearlyFull();
        deliverSome(x, 5);
        due.is("298 lines", x.look(10), 298);
        due.is("none behind", x.book(298, 0), -1);
        deliverSome(x, 1);
        due.is("300 lines", x.look(10), 300);
        due.line(x, 298, 14, 0, 0, 1, -1, 1);
        due.line(x, 299, 14, 1, 0, -1, 0, 1);
        due.is("none behind", x.book(300, 0), -1);
        deliverSome(x, 1);
        due.is("no more", x.look(10), 300);
        due.is("none behind", x.book(300, 0), -1);
        due.line(x, 299, 14, 1, 0, -1, 0, 1);
        due.line(x, 0, 0, 3, 0, 3, 2, 1);
        due.is("from the book alone: delivered", x.statement(1, 0, false), 78);
        due.is("from the book alone: allotted", x.statement(0, 1, true), 78);
        due.is("but it has moved", x.at(0, 0, 1), 15);
    }

    private static void bookHasNoMoreThen() {
        RollingNets x = nearlyFull();
        x.apart(4, 5, 0, 1, 100);
        x.tell(5, 0, 0, 1);
        deliverSome(x, 5);
        due.is("299 lines", x.look(10), 299);
        deliverSome(x, 1);
        // What is delivered has the last line; what is allotted has none.
        due.is("300 lines", x.look(10), 300);
        due.line(x, 299, 14, 0, 0, 1, -1, 1);
        due.is("delivered", x.statement(1, 0, false), 78);
        due.is("allotted", x.statement(0, 1, true), 77);
        due.is("but it has moved", x.at(0, 0, 1), 14);
        // Nor has any other sort: lent, apart, bought in.
        x.apart(4, 5, 0, 2, 100);
        x.apart(4, 5, 0, 3, 100);
        x.set(3, 1);
        x.set(4, 0);
        x.tell(5, 0, 0, 2);
        x.tell(2, 1, 0, 5);
        x.tell(2, 1, 2, 5);
        x.night(1);
        due.is("apart", x.at(4, 0, 1), 3);
        due.is("lent", x.at(2, 1, 5), 5);
        due.is("give", x.give(0, 2, 5), 0);
        due.is("call", x.call(152), 1);
        x.night(1);
        due.is("bought in", x.notice(0, 6), 5);
        due.is("bought in apart", x.notice(1, 6), 3);
        due.is("300 lines", x.look(10), 300);
        for (int what = 2; what <= 4; what++) {
            due.is("no line of " + what, x.statement(4, what, true), what == 3 ? 1 : 0);
            due.is("no line of " + what, x.statement(0, what, true), 0);
        }
    }

    // "DAY, what (0 delivered into the POOL, 1 ALLOTTED, 2 LENT, 3 APART, 4 BOUGHT IN), ISSUE, FROM (a MEMBER; NONE
    // for 1), TO (NONE for 0), SHARES."

    private static void bookOfEachSort() {
        RollingNets x = Make.quick();
        x.set(2, 1);
        due.is("empty", x.look(10), 0);
        due.is("empty", x.book(0, 0), -1);
        x.trade(0, 1, 5, 10, 100);
        x.apart(2, 3, 5, 5, 100);
        x.apart(2, 3, 5, 4, 100);
        x.tell(1, 5, 0, 1);
        x.tell(3, 5, 0, 5);
        x.night(1);
        x.tell(4, 5, 0, 2);
        x.tell(4, 5, 2, 2);
        x.give(0, 5, 3);
        x.call(2);
        x.night(1);
        due.line(x, 0, 0, 0, 5, 1, -1, 1);
        due.line(x, 1, 0, 1, 5, -1, 0, 1);
        due.line(x, 2, 0, 3, 5, 3, 2, 5);
        due.line(x, 3, 1, 2, 5, 4, 0, 2);
        due.line(x, 4, 1, 4, 5, 1, 0, 3);
        due.line(x, 5, 1, 4, 5, 3, 2, 4);
        due.is("six lines", x.look(10), 6);
    }

    // "IN THOUGHT (nothing of it stays)"

    private static void thoughtStaysNot() {
        RollingNets x = Make.quick();
        x.set(6, 100);
        x.trade(0, 1, 0, 100, 90);
        x.apart(2, 3, 0, 10, 100);
        x.tell(1, 0, 0, 60);
        x.night(1);
        x.give(0, 0, 5);
        x.call(1);
        x.dividend(0, 3);
        x.price(0, 150);
        x.trade(4, 5, 0, 1, 1);
        long cash = x.cash(0);
        for (int again = 0; again < 3; again++) {
            due.is("tomorrow", x.tomorrow(0, 0, 0), 35);
            due.is("reached", x.reached(1, 0), 3);
            due.is("ahead", x.ahead(0, 0), 0);
            due.is("queue", x.queue(0, -1, 0), 1);
            due.is("day", x.look(6), 1);
            due.is("position", x.at(0, 0, 0), 40);
            due.is("stock", x.at(0, 0, 1), 60);
            due.is("cash", x.cash(0), cash);
            due.is("lines", x.look(10), 2);
            due.is("open notices", x.look(9), 2);
            due.is("open", x.deal(1, 7), 10);
            due.is("open", x.deal(2, 7), 1);
            due.is("fails", x.at(1, 0, 9), 1);
            due.is("marked", x.issue(0, 1), 100);
            due.is("outside", x.look(11), 40);
        }
        x.night(1);
        due.is("the dividend is paid yet", x.cash(0), cash + 35 * 50 - 500 + 3 * 100);
    }

    // "TOMORROW: what a NIGHT would leave."

    private static void tomorrowIsANight() {
        RollingNets x = Make.onDay(97);
        x.trade(0, 1, 0, 10, 100);
        due.is("on day 97", x.tomorrow(0, 0, 0), 10);
        x.night(1);
        x.trade(0, 1, 0, 7, 100);
        due.is("on day 98", x.tomorrow(0, 0, 0), 17);
        due.is("two lots", x.tomorrow(0, 0, 6), 2);
        due.is("the first one's day", x.tomorrow(0, 0, 7), 97);
        x.night(1);
        for (int what = 0; what <= 9; what++) {
            due.is("on day 99", x.tomorrow(0, 0, what), Make.NOTHING);
        }
        due.is("as it is", x.at(0, 0, 0), 17);
    }

    // "AHEAD of a MEMBER in an ISSUE: how many SHARES of LONG LOTS of others go ahead of its first LONG LOT"

    private static void aheadOfTheFirst() {
        RollingNets x = Make.noLag();
        due.is("no lot at all", x.ahead(0, 0), -1);
        x.trade(2, 1, 0, 4, 100);
        due.is("not due", x.ahead(2, 0), -1);
        x.night(1);
        due.is("the one lot", x.ahead(2, 0), 0);
        due.is("short", x.ahead(1, 0), -1);
        due.is("no lot", x.ahead(0, 0), -1);
        x.trade(0, 1, 0, 3, 100);
        x.trade(2, 1, 0, 50, 100);
        x.trade(3, 1, 0, 7, 100);
        x.night(1);
        due.is("first, its own second counts nothing", x.ahead(2, 0), 0);
        due.is("behind the first one's first", x.ahead(0, 0), 4);
        due.is("behind both of 2, and 0", x.ahead(3, 0), 57);
        x.tell(3, 0, 3, 1);
        due.is("of greater rank", x.ahead(3, 0), 4);
        due.is("of less rank", x.ahead(0, 0), 11);
    }

    // "DIVIDEND of an ISSUE (told, 0 .. 99 for the next NIGHT, the latest told; then 0)"

    private static void dividendBounds() {
        RollingNets x = new RollingNets();
        x.tell(0, 5, 0, 1);
        long cash = 0;
        for (int v = 0; v <= 99; v += v == 0 || v == 98 ? 1 : 97) {
            due.is("dividend(5, " + v + ")", x.dividend(5, v), true);
            for (int far : Make.beyond(0, 99)) {
                due.is("dividend(5, " + far + ")", x.dividend(5, far), false);
            }
            x.night(1);
            cash += v;
            due.is("paid " + v, x.cash(0), cash);
            due.is("outside", x.look(11), -cash);
        }
        for (int issue : Make.beyond(0, 5)) {
            due.is("of issue " + issue, x.dividend(issue, 1), false);
        }
    }

    private static void dividendOfTheNextNight() {
        RollingNets x = new RollingNets();
        x.tell(0, 0, 0, 10);
        x.dividend(0, 7);
        x.dividend(0, 5);
        due.is("not at once", x.cash(0), 0);
        x.night(1);
        due.is("the latest told", x.cash(0), 50);
        x.night(2);
        due.is("then 0", x.cash(0), 50);
        x.dividend(0, 5);
        x.dividend(0, 0);
        x.night(1);
        due.is("0 told", x.cash(0), 50);
        x.dividend(0, 3);
        x.night(20);
        due.is("once of many nights", x.cash(0), 80);
        x.dividend(1, 3);
        x.night(1);
        due.is("of another issue", x.cash(0), 80);
    }

    // "CASH of each MEMBER there is it times (STOCK and POSITION) more; OUTSIDE is less by it times all STOCK."

    private static void dividendOnStockAndPosition() {
        RollingNets x = Make.noLag();
        x.trade(0, 1, 0, 10, 100);
        x.tell(0, 0, 0, 3);
        x.tell(2, 0, 0, 99999);
        x.tell(2, 0, 1, 99999);
        x.suspend(2, true);
        x.dividend(0, 99);
        x.night(1);
        due.is("stock and what it is to get", x.cash(0), 99 * 13);
        due.is("less than nothing", x.cash(1), -99 * 10);
        due.is("reserved and suspended, too", x.cash(2), 99 * 99999);
        due.is("nothing", x.cash(3), 0);
        due.is("outside", x.look(11), -99 * 100002);
        due.is("all cash", x.look(12), 99 * 100002);
    }

    // "of each MEMBER there is that is SHORT in the ISSUE then: FAILS (0 at first) one more; CASH less by its SHORT
    // times MARKED times RATE by 10000, cut; OUTSIDE more by that."

    private static void failsOfThoseShortThen() {
        RollingNets x = Make.quick();
        x.set(6, 100);
        due.is("at first", x.at(1, 0, 9), 0);
        x.trade(0, 1, 0, 10, 100);
        x.trade(0, 2, 0, 10, 100);
        x.trade(0, 3, 0, 10, 100);
        x.tell(1, 0, 0, 10);
        x.tell(2, 0, 0, 9);
        x.night(1);
        due.is("all delivered", x.at(1, 0, 9), 0);
        due.is("short by one", x.at(2, 0, 9), 1);
        due.is("short by ten", x.at(3, 0, 9), 1);
        due.is("long", x.at(0, 0, 9), 0);
        due.is("by its short then", x.cash(2), 900 - 1);
        due.is("by its short then", x.cash(3), -10);
        due.is("outside", x.look(11), 11);
        due.is("another issue", x.at(3, 1, 9), 0);
        due.is("give", x.give(0, 0, 1), 0);
        x.tell(3, 0, 0, 10);
        x.night(1);
        due.is("bought in", x.at(2, 0, 9), 1);
        due.is("delivered", x.at(3, 0, 9), 1);
        due.is("of the other", x.look(11), 11 + 110);
        // MARKED is the day's price then.
        RollingNets w = Make.noLag();
        w.set(6, 100);
        w.trade(0, 1, 0, 10, 100);
        w.price(0, 250);
        w.night(1);
        due.is("by the day's price", w.look(11), 25);
        // Netted by a trade that falls due on the day: short no more.
        RollingNets y = Make.noLag();
        y.trade(0, 1, 0, 10, 100);
        y.night(1);
        y.trade(1, 0, 0, 10, 100);
        y.night(1);
        due.is("netted", y.at(1, 0, 9), 1);
        for (int k = 0; k < 98; k++) {
            y.trade(0, 1, 0, 1, 100);
            y.trade(1, 0, 0, 1, 100);
        }
        Make.nights(y, 97);
        due.is("never short again", y.at(1, 0, 9), 1);
        RollingNets z = Make.noLag();
        z.trade(0, 1, 0, 10, 100);
        Make.nights(z, 99);
        due.is("each of all nights", z.at(1, 0, 9), 99);
    }

    // "MOVED: STOCK from a MEMBER to another one, FREE at most, at once (no line)."

    private static void moved() {
        int[][] all = {{1, 0}, {5, 4}, {10, 0}, {99999, 0}, {99999, 99998}};
        for (int[] one : all) {
            RollingNets x = Make.noLag();
            x.tell(0, 5, 0, one[0]);
            x.tell(0, 5, 1, one[1]);
            int free = one[0] - one[1];
            for (int n : Make.beyond(1, free)) {
                due.is("move " + n + " of " + free, x.move(0, 3, 5, n), false);
            }
            due.is("stock", x.at(0, 5, 1), one[0]);
            due.is("move " + free, x.move(0, 3, 5, free), true);
            due.is("at once", x.at(0, 5, 1), one[1]);
            due.is("at once", x.at(3, 5, 1), free);
            due.is("no more", x.move(0, 3, 5, 1), false);
            due.is("no line", x.look(10), 0);
            due.is("no cash", x.cash(0), 0);
            due.is("to itself", x.move(3, 3, 5, 1), false);
            due.is("back", x.move(3, 0, 5, free), true);
            due.is("1", x.move(0, 3, 5, 1), true);
        }
    }

    // "A SPLIT of an ISSUE by n (2 .. 5), at once"

    private static RollingNets at(int price, int marked) {
        RollingNets x = Make.noLag();
        x.price(0, marked);
        x.night(1);
        x.price(0, price);
        return x;
    }

    private static void splitBounds() {
        for (int n = -12; n <= 62; n++) {
            // 7560 is a multiple of all that are tried first.
            RollingNets x = at(7560, 7560);
            x.tell(0, 0, 0, 1);
            boolean is = n >= 2 && n <= 5;
            due.is("split(0, " + n + ")", x.split(0, n), is);
            due.is("price", x.issue(0, 0), is ? 7560 / n : 7560);
            due.is("marked", x.issue(0, 1), is ? 7560 / n : 7560);
            due.is("stock", x.at(0, 0, 1), is ? n : 1);
        }
        RollingNets x = at(7560, 7560);
        for (int n : Make.beyond(2, 5)) {
            due.is("split(0, " + n + ")", x.split(0, n), false);
        }
        for (int issue : Make.beyond(0, 5)) {
            due.is("split(" + issue + ", 2)", x.split(issue, 2), false);
        }
        due.is("no line", x.look(10), 0);
        due.is("no cash", x.look(12), 0);
    }

    // "refused, if .. PRICE or MARKED is no multiple of n"

    private static void splitMultiples() {
        for (int n = 2; n <= 5; n++) {
            for (int price = 59; price <= 61; price++) {
                for (int marked = 59; marked <= 61; marked++) {
                    RollingNets x = at(price, marked);
                    boolean is = price == 60 && marked == 60;
                    due.is("split by " + n + " of " + price + " and " + marked, x.split(0, n), is);
                    due.is("price", x.issue(0, 0), is ? 60 / n : price);
                    due.is("marked", x.issue(0, 1), is ? 60 / n : marked);
                }
            }
            RollingNets x = at(n, n);
            due.is("to the least price", x.split(0, n), true);
            due.is("price", x.issue(0, 0), 1);
            due.is("marked", x.issue(0, 1), 1);
            due.is("1 is no multiple", x.split(0, n), false);
            RollingNets y = at(9999, 3);
            due.is("9999 and 3 by " + n, y.split(0, n), n == 3);
        }
    }

    // "refused, if there is a TRADE of it OPEN"

    private static void splitWithTrades() {
        for (int which = 0; which < 5; which++) {
            // One of five is OPEN yet behind the night: APART, or not due.
            for (int sort = 0; sort < 2; sort++) {
                RollingNets x = Make.noLag();
                for (int k = 0; k < 5; k++) {
                    x.set(1, k == which && sort == 0 ? 2 : 0);
                    due.is("trade", k == which && sort == 1 ? x.apart(0, 1, 0, 1, 1) : x.trade(0, 1, 0, 1, 1), k);
                }
                due.is("split with trades open", x.split(0, 2), false);
                due.is("split of an issue without", x.split(1, 2), true);
                x.night(1);
                due.is("split with the one open", x.split(0, 2), false);
                due.is("price", x.issue(0, 0), 100);
                x.night(1);
                due.is("split with the one open", x.split(0, 2), false);
                x.tell(1, 0, 0, 5);
                x.night(1);
                due.is("done", x.deal(which, 7), 0);
                due.is("split", x.split(0, 2), true);
            }
        }
        RollingNets x = new RollingNets();
        x.trade(0, 1, 5, 1, 1);
        due.is("of the last issue", x.split(5, 2), false);
        due.is("of another one", x.split(4, 2), true);
    }

    // "a NOTICE of it OPEN"

    private static void splitWithNotices() {
        RollingNets x = Make.quick();
        x.set(2, 9);
        for (int member = 2; member <= 4; member++) {
            x.trade(member, 1, 0, 10, 100);
        }
        x.trade(0, 1, 1, 10, 100);
        x.night(1);
        x.give(0, 1, 1);
        for (int grace = 0; grace < 3; grace++) {
            x.set(4, grace);
            due.is("give", x.give(2 + grace, 0, 1), 1 + grace);
        }
        for (int open = 3; open > 0; open--) {
            due.is("split with " + open + " of it open", x.split(0, 2), false);
            x.night(1);
            due.is("open", x.look(9), open - 1);
        }
        due.is("none open any more", x.split(0, 2), true);
        due.is("of the other", x.split(1, 2), true);
        // Apart: open, though its trade is done.
        RollingNets y = Make.quick();
        y.apart(0, 1, 0, 10, 100);
        y.night(1);
        y.set(4, 2);
        due.is("call", y.call(0), 0);
        y.tell(1, 0, 0, 10);
        y.night(1);
        due.is("done", y.deal(0, 7), 0);
        due.is("open yet", y.notice(0, 4), 1);
        due.is("split", y.split(0, 2), false);
        due.is("of another", y.split(1, 2), true);
        y.night(2);
        due.is("closed", y.notice(0, 4), 0);
        due.is("split", y.split(0, 2), true);
    }

    // "or any number of it (of MEMBERS there; POSITION, without its sign, too) would be above 99999999: STOCK,
    // RESERVED, LENDS, LENT, SHARES of LOTS (of MEMBERS there) are n times what they were"

    /** SPLITS of ISSUE 0, one behind the other. */
    private static void grow(RollingNets x, int... by) {
        for (int n : by) {
            x.price(0, 60);
            x.night(1);
            due.is("split by " + n, x.split(0, n), true);
        }
        x.price(0, 60);
        x.night(1);
    }

    private static void splitOfStock() {
        RollingNets x = new RollingNets();
        x.tell(5, 0, 0, 33333);
        grow(x, 5, 5, 5, 4, 2);
        x.tell(0, 0, 0, 334);
        x.move(0, 5, 0, 334);
        due.is("stock", x.at(5, 0, 1), 33333334);
        due.is("split to 100000002", x.split(0, 3), false);
        x.move(5, 0, 0, 1);
        due.is("split to 99999999", x.split(0, 3), true);
        due.is("stock", x.at(5, 0, 1), 99999999);
        due.is("stock", x.at(0, 0, 1), 3);
        RollingNets y = new RollingNets();
        y.tell(0, 0, 0, 50000);
        grow(y, 5, 5, 5, 4, 2);
        due.is("split to 100000000", y.split(0, 2), false);
        due.is("stock", y.at(0, 0, 1), 50000000);
        y.move(0, 1, 0, 1);
        due.is("split to 99999998", y.split(0, 2), true);
        due.is("stock", y.at(0, 0, 1), 99999998);
        due.is("stock", y.at(1, 0, 1), 2);
    }

    /** What can be told is 99999 at most: 99999900 is the last that it can become, 100000000 the first that it can't. */
    private static void splitOfWhatIsTold() {
        int[] at = {1, 3, 4};
        for (int what = 0; what < 3; what++) {
            for (int member = 0; member < 6; member += 5) {
                RollingNets x = new RollingNets();
                x.tell(member, 0, what, 74074);
                grow(x, 5, 5, 3, 3, 3);
                due.is("what " + what, x.at(member, 0, at[what]), 49999950);
                due.is("split to 149999850", x.split(0, 3), false);
                due.is("split to 99999900", x.split(0, 2), true);
                due.is("what " + what, x.at(member, 0, at[what]), 99999900);
                RollingNets y = new RollingNets();
                y.tell(member, 0, what, 50000);
                grow(y, 5, 5, 5, 4);
                due.is("split to 100000000", y.split(0, 4), false);
                due.is("what " + what, y.at(member, 0, at[what]), 25000000);
                due.is("price", y.issue(0, 0), 60);
                due.is("split to 75000000", y.split(0, 3), true);
                due.is("what " + what, y.at(member, 0, at[what]), 75000000);
            }
        }
    }

    /** 0 buys n of 1 and 2, as many of each, or sells them: more than one TRADE can have. */
    private static void open(RollingNets x, boolean isLong, int n) {
        int left = n;
        for (int k = 0; left > 0; k++) {
            int part = Math.min(left, Math.min(9999, (n + 1) / 2));
            int other = 1 + k % 2;
            int trade = isLong ? x.trade(0, other, 0, part, 100) : x.trade(other, 0, 0, part, 100);
            due.is("a trade", trade >= 0, true);
            left -= part;
        }
    }

    /** 3 has LENT n, and nothing else is of anyone. */
    private static RollingNets lent(int n) {
        RollingNets x = Make.noLag();
        x.set(2, 1);
        open(x, true, n);
        x.tell(3, 0, 0, n);
        x.tell(3, 0, 2, n);
        x.night(2);
        due.is("lent", x.at(3, 0, 5), n);
        // It sells what it waits for, to those who owe it.
        int left = n;
        while (left > 0) {
            int who = x.at(1, 0, 0) < 0 ? 1 : 2;
            int part = Math.min(9999, -x.at(who, 0, 0));
            x.trade(who, 3, 0, part, 100);
            x.night(1);
            left -= part;
        }
        x.tell(3, 0, 2, 0);
        x.tell(0, 0, 0, 0);
        for (int k = 0; k < 4; k++) {
            due.is("no lots", x.at(k, 0, 6), 0);
            due.is("no stock", x.at(k, 0, 1), 0);
        }
        return x;
    }

    private static void splitOfLent() {
        RollingNets x = lent(74074);
        grow(x, 5, 5, 3, 3, 3);
        due.is("split to 149999850", x.split(0, 3), false);
        due.is("split to 99999900", x.split(0, 2), true);
        due.is("lent", x.at(3, 0, 5), 99999900);
        RollingNets y = lent(50000);
        grow(y, 5, 5, 5, 4);
        due.is("split to 100000000", y.split(0, 4), false);
        due.is("lent", y.at(3, 0, 5), 25000000);
        due.is("split to 75000000", y.split(0, 3), true);
        due.is("lent", y.at(3, 0, 5), 75000000);
    }

    private static void splitOfPositions() {
        for (int sort = 0; sort < 2; sort++) {
            int sign = sort == 0 ? 1 : -1;
            RollingNets x = Make.noLag();
            open(x, sort == 0, 33333);
            grow(x, 5, 5, 5, 4, 2);
            open(x, sort == 0, 334);
            x.night(1);
            due.is("position", x.at(0, 0, 0), sign * 33333334);
            due.is("split to 100000002", x.split(0, 3), false);
            due.is("position", x.at(0, 0, 0), sign * 33333334);
            open(x, sort == 1, 1);
            x.night(1);
            due.is("split to 99999999", x.split(0, 3), true);
            due.is("position", x.at(0, 0, 0), sign * 99999999);
            due.is("its first lot", x.lot(0, 0, 0, 1), sign * 99998997);
            due.is("its second lot", x.lot(0, 0, 1, 1), sign * 1002);
            due.is("the others", x.at(1, 0, 0) + x.at(2, 0, 0), -sign * 99999999);
            RollingNets y = Make.noLag();
            open(y, sort == 0, 50000);
            grow(y, 5, 5, 5, 4);
            due.is("split to 100000000", y.split(0, 4), false);
            due.is("its lot", y.lot(0, 0, 0, 1), sign * 25000000);
            due.is("split to 75000000", y.split(0, 3), true);
            due.is("its lot", y.lot(0, 0, 0, 1), sign * 75000000);
            due.is("another one's", y.at(1, 0, 0) + y.at(2, 0, 0), -sign * 75000000);
        }
    }

    private static void splitOfThoseThere() {
        for (int what = 0; what < 3; what++) {
            RollingNets x = new RollingNets();
            x.tell(5, 0, what, 99999);
            x.tell(4, 0, what, 3);
            grow(x, 5, 5, 5, 4, 2);
            due.is("split beyond", x.split(0, 2), false);
            x.set(0, 5);
            due.is("split, the rich one not there", x.split(0, 2), true);
            x.set(0, 6);
            int at = what == 0 ? 1 : what + 2;
            due.is("as it was", x.at(5, 0, at), 99999000);
            due.is("who was there", x.at(4, 0, at), 6000);
        }
    }

    // "COLLATERAL is told (0 .. 9999999, 0 at first)"

    private static void collateralBounds() {
        RollingNets x = new RollingNets();
        for (int member = 0; member < 6; member++) {
            due.is("at first", x.margin(member, 1), 0);
            for (int v : new int[] {0, 1, 9999998, 9999999}) {
                due.is("collateral(.., " + v + ")", x.collateral(member, v), true);
                due.is("margin", x.margin(member, 1), v);
            }
            for (int v : Make.beyond(0, 9999999)) {
                due.is("collateral(.., " + v + ")", x.collateral(member, v), false);
            }
            due.is("margin", x.margin(member, 1), 9999999);
        }
        for (int member : Make.beyond(0, 5)) {
            due.is("collateral(" + member + ", 1)", x.collateral(member, 1), false);
        }
    }

    // "SHARES (however many) times MARKED times HAIRCUT (10) and, if SHORT, 5 for each DAY since that of the LOT (100
    // in all at most), by 100 each"

    private static void haircut() {
        RollingNets x = Make.noLag();
        x.trade(0, 1, 0, 100, 100);
        due.is("no lots", x.margin(1, 0), 0);
        for (int age = 1; age <= 25; age++) {
            x.night(1);
            due.is("long since " + age, x.margin(0, 0), 1000);
            due.is("short since " + age, x.margin(1, 0), 100 * Math.min(100, 10 + 5 * age));
        }
        due.is("17 and 18", Math.min(100, 10 + 5 * 17) + Math.min(100, 10 + 5 * 18), 195);
        Make.nights(x, 74);
        due.is("on day 99", x.margin(1, 0), 10000);
        due.is("on day 99", x.margin(0, 0), 1000);
        RollingNets y = Make.noLag();
        y.price(0, 9999);
        for (int k = 0; k < 200; k++) {
            y.trade(0, 1, 0, 9999, 9999);
        }
        y.night(18);
        due.is("however many", y.margin(1, 0), 200L * 9999 * 9999);
        due.is("however many", y.margin(0, 0), 20L * 9999 * 9999);
    }

    // "by 100 each, cut, added"

    private static void demandIsCut() {
        int[][] all = {{1, 9, 0, 1}, {1, 10, 1, 1}, {1, 19, 1, 2}, {1, 20, 2, 3}, {3, 3, 0, 1}, {9, 1, 0, 1}, {99, 1, 9, 14}};
        for (int[] one : all) {
            RollingNets x = Make.noLag();
            for (int issue = 0; issue < 2; issue++) {
                x.price(issue, one[1]);
            }
            x.night(1);
            for (int issue = 0; issue < 2; issue++) {
                x.trade(0, 1, issue, one[0], one[1]);
            }
            x.night(1);
            due.is("long " + one[0] + " at " + one[1] + ", twice", x.margin(0, 0), 2 * one[2]);
            due.is("short " + one[0] + " at " + one[1] + ", twice", x.margin(1, 0), 2 * one[3]);
        }
        // Of one issue: lot by lot.
        RollingNets x = Make.noLag();
        x.price(0, 1);
        x.night(1);
        for (int k = 0; k < 4; k++) {
            x.trade(0, 1, 0, 19, 1);
            x.night(1);
        }
        due.is("four lots, 1.9 each", x.margin(0, 0), 4);
        // 19 times 30, 25, 20 and 15 by 100.
        due.is("short ones", x.margin(1, 0), 5 + 4 + 3 + 2);
    }

    // "LACKS: DEMAND less COLLATERAL, 0 at least."

    private static void lacks() {
        for (int v = 1498; v <= 1502; v++) {
            RollingNets x = Make.noLag();
            x.trade(0, 1, 0, 100, 100);
            x.night(1);
            x.collateral(1, v);
            x.collateral(0, 9999999);
            due.is("demand", x.margin(1, 0), 1500);
            due.is("lacks, collateral " + v, x.margin(1, 2), Math.max(0, 1500 - v));
            due.is("look(16)", x.look(16), v < 1500 ? 1 : 0);
            due.is("with nothing open", x.margin(2, 2), 0);
        }
    }

    // "STRESS of x (-99 .. 99)"

    private static void stressBounds() {
        RollingNets x = Make.noLag();
        x.trade(0, 1, 0, 100, 100);
        x.night(1);
        for (int p = -99; p <= 99; p++) {
            due.is("stress(" + p + ")", x.stress(p), p < 0 ? 1 : p > 0 ? 2 : 0);
        }
        for (int p : Make.beyond(-99, 99)) {
            due.is("stress(" + p + ")", x.stress(p), -1);
        }
        x.collateral(0, 9899);
        x.collateral(1, 9800);
        due.is("98 by 100", x.stress(98) + x.stress(-98), 0);
        due.is("99 by 100", x.stress(99), 2);
        due.is("-99 by 100", x.stress(-99), 1);
    }

    // "(POSITION times MARKED times x by 100, cut, each ISSUE) .. together would be below 0."

    private static void stressBelowNought() {
        int[][] all = {{-1000, 0}, {-1001, 1}, {-999, 0}};
        for (int[] one : all) {
            // 0 has CASH of one[0]; it would win 1000 by 10.
            RollingNets x = Make.noLag();
            x.trade(0, 1, 0, 100, 100);
            x.apart(0, 2, 1, 1, -one[0]);
            x.tell(2, 1, 0, 1);
            x.night(1);
            due.is("cash", x.cash(0), one[0]);
            due.is("stress(10)", x.stress(10) & 1, one[1]);
            due.is("stress(9)", x.stress(9) & 1, 1);
            due.is("stress(11)", x.stress(11) & 1, 0);
            x.collateral(0, 1);
            due.is("stress(10), collateral 1", x.stress(10) & 1, 0);
        }
        // Cut for each issue: -0.99 is nothing, in all six.
        RollingNets x = Make.noLag();
        for (int issue = 0; issue < 6; issue++) {
            x.price(issue, 1);
        }
        x.night(1);
        for (int issue = 0; issue < 6; issue++) {
            x.trade(0, 1, issue, 1, 1);
        }
        x.night(1);
        due.is("cut", x.stress(-99), 0);
        due.is("cut", x.stress(99), 0);
        for (int issue = 0; issue < 6; issue++) {
            x.trade(0, 1, issue, 1, 1);
        }
        x.night(1);
        due.is("two by 49 is cut", x.stress(-49), 0);
        due.is("two by 50 is 1", x.stress(-50), 1);
        x.collateral(0, 6);
        due.is("six in all", x.stress(-99), 0);
        x.collateral(0, 5);
        due.is("six in all", x.stress(-99), 1);
        RollingNets y = new RollingNets();
        due.is("nothing at all is not below 0", y.stress(-99), 0);
    }

    // "THE QUEUE of an ISSUE: its LONG LOTS, one by one, in the order of (c)"

    private static void queueOneByOne() {
        RollingNets x = Make.noLag();
        due.is("empty", x.queue(0, -1, 0), 0);
        due.is("none of it", x.queue(0, 0, 0), -1);
        x.trade(0, 1, 0, 5, 100);
        x.night(1);
        due.is("one", x.queue(0, -1, 0), 1);
        due.is("its shares", x.queue(0, 0, 2), 5);
        due.is("none behind it", x.queue(0, 1, 2), -1);
        x.trade(0, 1, 0, 6, 100);
        x.trade(2, 1, 0, 7, 100);
        x.night(1);
        due.is("of one member two", x.queue(0, -1, 0), 3);
        int[][] want = {{0, 0, 5}, {0, 1, 6}, {2, 1, 7}};
        for (int i = 0; i < 3; i++) {
            for (int what = 0; what < 3; what++) {
                due.is("queue(0, " + i + ", " + what + ")", x.queue(0, i, what), want[i][what]);
            }
        }
        due.is("none behind them", x.queue(0, 3, 0), -1);
        x.tell(1, 0, 0, 18);
        x.night(1);
        due.is("empty again", x.queue(0, -1, 0), 0);
    }

    // "AGED: how many SHARES of SHORT LOTS are so many DAYS old at least (DAY less that of the LOT)."

    private static void agedDays() {
        RollingNets x = Make.noLag();
        x.trade(0, 1, 0, 10, 100);
        Make.nights(x, 98);
        x.trade(0, 2, 0, 5, 100);
        x.night(1);
        due.is("of day 98", x.aged(0, 0), 15);
        due.is("of day 98", x.aged(0, 1), 15);
        due.is("older", x.aged(0, 2), 10);
        due.is("98", x.aged(0, 98), 10);
        due.is("99", x.aged(0, 99), 10);
        for (int days : Make.beyond(0, 99)) {
            due.is("aged(0, " + days + ")", x.aged(0, days), -1);
        }
        RollingNets y = Make.noLag();
        due.is("none", y.aged(0, 0), 0);
        y.trade(0, 1, 0, 10, 100);
        for (int age = 1; age <= 5; age++) {
            y.night(1);
            due.is("just so old", y.aged(0, age), 10);
            due.is("not older", y.aged(0, age + 1), 0);
        }
    }

    // "STATEMENT of a MEMBER, from THE BOOK: SHARES that came to it, that went from it, by what."

    private static void statements() {
        RollingNets x = new RollingNets();
        for (int what = 0; what <= 4; what++) {
            due.is("an empty book", x.statement(0, what, true), 0);
            due.is("an empty book", x.statement(5, what, false), 0);
        }
        RollingNets y = Make.quick();
        y.set(2, 1);
        y.trade(0, 1, 5, 10, 100);
        y.apart(0, 1, 5, 5, 100);
        y.apart(0, 1, 5, 4, 100);
        y.tell(1, 5, 0, 1);
        y.night(1);
        y.tell(2, 5, 0, 2);
        y.tell(2, 5, 2, 2);
        y.give(0, 5, 3);
        y.call(2);
        y.night(1);
        y.tell(1, 5, 1, 0);
        y.tell(1, 5, 0, 8);
        y.night(1);
        // 1 owed 10: delivered 1, was bought in 3, delivered 6; 4 were bought in apart, 5 apart it has never had free.
        due.is("short no more", y.at(1, 5, 0), 0);
        int[] went = {7, 0, 0, 0, 7};
        int[] came = {0, 5, 2, 0, 7};
        for (int what = 0; what <= 4; what++) {
            due.is("went from 1, what " + what, y.statement(1, what, false), went[what]);
            due.is("came to 1, what " + what, y.statement(1, what, true), 0);
            due.is("came to 0, what " + what, y.statement(0, what, true), came[what]);
            due.is("went from 0, what " + what, y.statement(0, what, false), 0);
        }
        due.is("lent by 2", y.statement(2, 2, false), 2);
        due.is("allotted to 2", y.statement(2, 1, true), 2);
    }

    // Promise 36: "OUTSIDE (an int) .. all CASH (an int; ..)": beyond it they wrap around.

    private static void outsideIsAnInt() {
        RollingNets x = new RollingNets();
        x.set(0, 12);
        for (int member = 0; member < 11; member++) {
            x.tell(member, 0, 0, 99999);
        }
        x.tell(11, 0, 0, 38139);
        x.dividend(0, 8);
        x.night(1);
        x.tell(11, 0, 0, 99999);
        for (int k = 0; k < 18; k++) {
            x.dividend(0, 99);
            x.night(1);
        }
        long paid = 8L * 1138128 + 18L * 99 * 1199988;
        due.is("seven less than the most of an int", paid, Integer.MAX_VALUE - 7L);
        int[] stock = {7, 1, 1, 1};
        int[] outside = {-Integer.MAX_VALUE, Integer.MIN_VALUE, Integer.MAX_VALUE, Integer.MAX_VALUE - 1};
        int[] cash = {Integer.MAX_VALUE, Integer.MIN_VALUE, -Integer.MAX_VALUE, -Integer.MAX_VALUE + 1};
        for (int k = 0; k < 4; k++) {
            x.tell(3, 1, 0, stock[k]);
            x.dividend(1, 1);
            x.night(1);
            due.is("outside", x.look(11), outside[k]);
            due.is("all cash", x.look(12), cash[k]);
        }
        due.is("cash is a long", x.cash(11), 8L * 38139 + 18L * 99 * 99999);
    }

    // Promise 32: "its CASH less what it is now (an int)"

    private static void tomorrowsCashIsAnInt() {
        RollingNets x = Make.noLag();
        x.price(0, 1);
        x.night(1);
        for (int k = 0; k < 21; k++) {
            x.trade(0, 1, 0, 9999, 9999);
        }
        x.trade(0, 1, 0, 9999, 4812);
        x.trade(0, 1, 0, 8416, 2);
        int[] seller = {Integer.MAX_VALUE, Integer.MIN_VALUE, -Integer.MAX_VALUE};
        int[] buyer = {-Integer.MAX_VALUE, Integer.MIN_VALUE, Integer.MAX_VALUE};
        for (int k = 0; k < 3; k++) {
            due.is("the seller's", x.tomorrow(1, 0, 9), seller[k]);
            due.is("the buyer's", x.tomorrow(0, 5, 9), buyer[k]);
            x.trade(0, 1, 0, 1, 2);
        }
        x.night(1);
        due.is("cash is a long", x.cash(1), Integer.MAX_VALUE + 3L);
        due.is("cash is a long", x.cash(0), -Integer.MAX_VALUE - 3L);
    }
}
