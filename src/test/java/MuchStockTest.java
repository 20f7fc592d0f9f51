/**
 * Promises 7 to 9, 12, 20, 25, 32 and 35 with more STOCK than an int can tell: no sentence of the
 * document bounds what a member may have by MOVED. (Issues 8, 9 and 10.)
 */
public final class MuchStockTest {
    private static final Due due = new Due();
    private static final int RICH = 11;
    private static final int MOST = Integer.MAX_VALUE;
    private static final long MUCH = 2199978000L;

    public static void main(String[] args) {
        told();
        move();
        moveReserved();
        split();
        splitJust();
        dividend();
        delivered();
        apart();
        lent();
        beyondByEach();
        tomorrowAndImage();
        due.end();
    }

    /** Twelve members on DAY 2: RICH has MUCH of ISSUE 0, the others nothing; PRICE and MARKED are 4. */
    private static RollingNets grown() {
        RollingNets x = new RollingNets();
        int[] by = {5, 5, 5, 2, 2, 2};
        for (int round = 0; round < 2; round++) {
            due.is("set(0, 11)", x.set(0, RICH), true);
            for (int k = 0; k < RICH; k++) {
                due.is("tell", x.tell(k, 0, 0, 99999), true);
            }
            due.is("price", x.price(0, 4000), true);
            due.is("night", x.night(1), 1);
            for (int n : by) {
                due.is("split, the rich one not there", x.split(0, n), true);
            }
            due.is("set(0, 12)", x.set(0, 12), true);
            for (int k = 0; k < RICH; k++) {
                due.is("move", x.move(k, RICH, 0, 99999000), true);
            }
        }
        return x;
    }

    /** What a member has: a dividend of 1 pays so much, if nothing else is paid in that night. */
    private static void has(String when, RollingNets x, int member, long want) {
        long before = x.cash(member);
        x.image(true);
        x.dividend(0, 1);
        x.night(1);
        due.is(when + ": stock and position of " + member, x.cash(member) - before, want);
        x.image(false);
    }

    private static void told() {
        RollingNets x = grown();
        has("grown", x, RICH, MUCH);
        due.is("at(11, 0, 1): what an int has of it", x.at(RICH, 0, 1), (int) MUCH);
        due.is("at(11, 0, 2): what an int has of it", x.at(RICH, 0, 2), (int) MUCH);
        due.is("issue(0, 4): what an int has of it", x.issue(0, 4), (int) MUCH);
        due.is("lends nothing", x.at(RICH, 0, 8), 0);
        x.tell(RICH, 0, 2, 99999);
        due.is("could lend all it lends", x.at(RICH, 0, 8), 99999);
        x.tell(RICH, 0, 1, 99999);
        due.is("reserved", x.at(RICH, 0, 2), (int) (MUCH - 99999));
        due.is("could lend all it lends", x.at(RICH, 0, 8), 99999);
        x.suspend(RICH, true);
        due.is("suspended", x.at(RICH, 0, 2), 0);
        due.is("suspended", x.at(RICH, 0, 8), 0);
        x.tell(RICH, 0, 0, 7);
        due.is("told anew", x.at(RICH, 0, 1), 7);
    }

    private static void move() {
        RollingNets x = grown();
        due.is("move(11, 0, 0, 1)", x.move(RICH, 0, 0, 1), true);
        due.is("at(0, 0, 1)", x.at(0, 0, 1), 1);
        has("1 moved", x, RICH, MUCH - 1);
        due.is("back", x.move(0, RICH, 0, 1), true);
        due.is("more than the one has", x.move(0, RICH, 0, 1), false);
        due.is("move(11, 3, 0, 2147483647)", x.move(RICH, 3, 0, MOST), true);
        due.is("at(3, 0, 1)", x.at(3, 0, 1), MOST);
        int left = (int) (MUCH - MOST);
        due.is("at(11, 0, 1)", x.at(RICH, 0, 1), left);
        due.is("one more than there is", x.move(RICH, 3, 0, left + 1), false);
        due.is("one", x.move(RICH, 3, 0, 1), true);
        has("one beyond an int", x, 3, MOST + 1L);
        due.is("all of an int", x.move(3, 4, 0, MOST), true);
        due.is("the one", x.move(3, 4, 0, 1), true);
        due.is("and no more", x.move(3, 4, 0, 1), false);
        due.is("0", x.move(4, 3, 0, 0), false);
        due.is("below 0", x.move(4, 3, 0, Integer.MIN_VALUE), false);
        x.suspend(4, true);
        due.is("suspended", x.move(4, 3, 0, 1), false);
    }

    private static void moveReserved() {
        RollingNets x = grown();
        x.tell(RICH, 0, 1, 99999);
        due.is("much less reserved", x.move(RICH, 0, 0, MOST), true);
        int free = (int) (MUCH - MOST) - 99999;
        due.is("at(11, 0, 2)", x.at(RICH, 0, 2), free);
        due.is("more than free", x.move(RICH, 0, 0, free + 1), false);
        due.is("all that is free", x.move(RICH, 0, 0, free), true);
        due.is("none free", x.move(RICH, 0, 0, 1), false);
    }

    private static void split() {
        RollingNets x = grown();
        x.price(0, 60);
        x.night(1);
        for (int n = 2; n <= 5; n++) {
            due.is("split by " + n + " of very much", x.split(0, n), false);
        }
        has("not split", x, RICH, MUCH);
        due.is("price", x.issue(0, 0), 60);
        due.is("marked", x.issue(0, 1), 60);
        // Such as have 0, or few, by 32 bits alone.
        for (int n = 2; n <= 5; n++) {
            for (long bits = 1L << 32; bits <= MUCH * n; bits += 1L << 32) {
                RollingNets y = grown();
                y.price(0, 60);
                y.night(1);
                y.move(RICH, 0, 0, (int) (MUCH - bits / n - 1));
                y.set(0, 12);
                has("what few bits tell", y, RICH, bits / n + 1);
                due.is("split by " + n, y.split(0, n), false);
            }
        }
        x.set(0, RICH);
        due.is("split, the rich one not there", x.split(0, 5), true);
        x.set(0, 12);
        has("not there, it was not split", x, RICH, MUCH);
    }

    private static void splitJust() {
        RollingNets x = grown();
        long left = MUCH;
        for (int k = 0; k < RICH; k++) {
            due.is("move", x.move(RICH, k, 0, 49999999), true);
            left -= 49999999;
        }
        // The others can be split by 2 just so; the rich one cannot.
        due.is("the rich one has more", x.split(0, 2), false);
        has("the rich one", x, RICH, left);
        x.set(0, RICH);
        due.is("split to 99999998", x.split(0, 2), true);
        due.is("at(0, 0, 1)", x.at(0, 0, 1), 99999998);
        due.is("split beyond", x.split(0, 2), false);
    }

    private static void dividend() {
        RollingNets x = grown();
        x.dividend(0, 1);
        x.night(1);
        due.is("cash(11)", x.cash(RICH), MUCH);
        due.is("look(11): an int", x.look(11), (int) -MUCH);
        due.is("look(12): an int", x.look(12), (int) MUCH);
        x.dividend(0, 99);
        x.night(1);
        due.is("cash(11)", x.cash(RICH), 100 * MUCH);
        due.is("look(11): an int", x.look(11), (int) (-100 * MUCH));
        x.night(1);
        due.is("the dividend is gone", x.cash(RICH), 100 * MUCH);
        x.set(0, RICH);
        x.dividend(0, 1);
        x.night(1);
        x.set(0, 12);
        due.is("not there, it gets none", x.cash(RICH), 100 * MUCH);
    }

    private static void line(RollingNets x, int i, int what, int from, int to, int shares) {
        due.is("book(" + i + ", 1)", x.book(i, 1), what);
        due.is("book(" + i + ", 3)", x.book(i, 3), from);
        due.is("book(" + i + ", 4)", x.book(i, 4), to);
        due.is("book(" + i + ", 5)", x.book(i, 5), shares);
    }

    private static void delivered() {
        RollingNets x = grown();
        x.set(1, 0);
        x.trade(2, RICH, 0, 9999, 4);
        due.is("tomorrow it has delivered", x.tomorrow(2, 0, 1), 9999);
        x.night(1);
        due.is("two lines", x.look(10), 2);
        line(x, 0, 0, RICH, -1, 9999);
        line(x, 1, 1, -1, 2, 9999);
        due.is("at(11, 0, 0)", x.at(RICH, 0, 0), 0);
        due.is("at(2, 0, 1)", x.at(2, 0, 1), 9999);
        has("delivered", x, RICH, MUCH - 9999);
        x.suspend(RICH, true);
        x.trade(2, RICH, 0, 5, 4);
        x.night(1);
        due.is("suspended, it delivers nothing", x.at(RICH, 0, 0), -5);
    }

    private static void apart() {
        RollingNets x = grown();
        x.set(1, 0);
        x.apart(2, RICH, 0, 9999, 4);
        x.night(1);
        due.is("done", x.deal(0, 7), 0);
        line(x, 0, 3, RICH, 2, 9999);
        has("done", x, RICH, MUCH - 9999);
    }

    private static void lent() {
        RollingNets x = grown();
        x.set(1, 0);
        x.set(2, 1);
        x.tell(RICH, 0, 2, 500);
        x.tell(3, 0, 0, 400);
        x.tell(3, 0, 2, 400);
        x.trade(2, 1, 0, 700, 4);
        x.night(1);
        due.is("too young", x.look(10), 0);
        x.night(1);
        due.is("two loans", x.look(10), 2);
        line(x, 0, 2, RICH, 2, 500);
        line(x, 1, 2, 3, 2, 200);
        due.is("at(11, 0, 5)", x.at(RICH, 0, 5), 500);
        due.is("at(11, 0, 8)", x.at(RICH, 0, 8), 0);
        // No more loans in the night that pays the dividend: they would be paid for.
        x.set(2, 9);
        has("lent, to get as much", x, RICH, MUCH);
    }

    /** A member with as much as an int can tell gets more, each way that there is. */
    private static void beyondByEach() {
        RollingNets x = grown();
        x.move(RICH, 2, 0, MOST);
        x.set(1, 0);
        x.set(2, 1);
        x.set(3, 1);
        x.set(4, 0);
        x.trade(2, 3, 0, 10, 4);
        x.tell(3, 0, 0, 4);
        x.night(1);
        due.is("allotted", x.book(1, 5), 4);
        has("allotted", x, 2, MOST + 10L);
        x.tell(RICH, 0, 2, 1);
        x.night(1);
        due.is("lent", x.book(2, 1), 2);
        has("lent", x, 2, MOST + 10L);
        due.is("give(2, 0, 5)", x.give(2, 0, 5), 0);
        x.night(1);
        due.is("bought in", x.notice(0, 6), 5);
        due.is("nothing to get", x.at(2, 0, 0), 0);
        has("bought in", x, 2, MOST + 10L);
        x.apart(2, RICH, 0, 3, 4);
        x.apart(2, 4, 0, 8, 4);
        x.night(2);
        due.is("one is done", x.deal(1, 7), 0);
        has("apart", x, 2, MOST + 13L);
        due.is("call(2)", x.call(2), 1);
        x.night(1);
        due.is("bought in apart", x.notice(1, 6), 8);
        has("bought in apart", x, 2, MOST + 21L);
        due.is("at(2, 0, 1): what an int has of it", x.at(2, 0, 1), (int) (MOST + 21L));
    }

    private static void tomorrowAndImage() {
        RollingNets x = grown();
        x.tell(RICH, 0, 2, 77);
        x.dividend(0, 1);
        due.is("tomorrow(11, 0, 1): what an int has of it", x.tomorrow(RICH, 0, 1), (int) MUCH);
        due.is("tomorrow(11, 0, 2): what an int has of it", x.tomorrow(RICH, 0, 2), (int) MUCH);
        due.is("tomorrow(11, 0, 8)", x.tomorrow(RICH, 0, 8), 77);
        due.is("tomorrow(11, 0, 9): an int", x.tomorrow(RICH, 0, 9), (int) MUCH);
        x.image(true);
        x.tell(RICH, 0, 0, 1);
        x.image(false);
        x.night(1);
        due.is("gone back to", x.cash(RICH), MUCH);
        due.is("gone back to", x.move(RICH, 0, 0, MOST), true);
    }
}
