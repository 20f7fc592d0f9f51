/** Promise 35: the image, from which all goes on. */
public final class ImageTest {
    private static final Due due = new Due();

    public static void main(String[] args) {
        none();
        everythingIsBack();
        moreThanOnce();
        tapeAndFaultStay();
        planIsBack();
        goesOn();
        imageOfBefore();
        ranksAreBack();
        noticesAnew();
        due.end();
    }

    private static void none() {
        RollingNets x = new RollingNets();
        due.is("none", x.image(false), false);
        x.price(0, 50);
        due.is("none", x.image(false), false);
        due.is("price stays", x.issue(0, 0), 50);
        due.is("taken", x.image(true), true);
        due.is("gone back", x.image(false), true);
    }

    private static void fill(RollingNets x, int by) {
        for (int what = 1; what < 7; what++) {
            x.set(what, 1 + by % 2);
        }
        x.set(1, 0);
        for (int k = 0; k < 5; k++) {
            x.trade(k, (k + 1) % 6, k % 3, 10 + by + k, 90 + k);
            x.apart(k, (k + 2) % 6, k % 4, 5 + by, 90 + k);
            x.tell(k, k % 3, 0, 3 + by);
            x.tell(k, 2, 1, by);
            x.tell(k, k % 4, 2, 4 + by);
            x.tell(k, 0, 3, (k + by) % 10);
            x.collateral(k, 1000 * by);
            x.suspend(k, (k + by) % 4 == 0);
        }
        x.price(by % 6, 100 + by);
        x.night(3);
        x.give(0, 0, 1);
        x.give(1, 1, 1);
        x.call(1);
        x.dividend(by % 6, by % 9);
        x.night(1);
        x.dividend(2, 1);
    }

    /** Filled so many times, each time else. */
    private static RollingNets filled(int... by) {
        RollingNets x = new RollingNets();
        for (int one : by) {
            fill(x, one);
        }
        return x;
    }

    private static RollingNets taken(RollingNets x) {
        due.is("taken", x.image(true), true);
        return x;
    }

    private static RollingNets goneBack(RollingNets x) {
        due.is("gone back", x.image(false), true);
        return x;
    }

    private static RollingNets changed(int by) {
        RollingNets x = taken(filled(1));
        fill(x, by);
        x.split(0, 2);
        return x;
    }

    private static void everythingIsBack() {
        due.is("else now", Asked.differences(() -> taken(filled(1)), () -> changed(4)) > 100, true);
        Asked.same(due, "as it was", () -> taken(filled(1)), () -> goneBack(changed(4)));
        Asked.same(due, "taking it changes nothing", () -> taken(filled(1)), () -> taken(taken(filled(1))));
    }

    private static void moreThanOnce() {
        Asked.same(due, "more than once", () -> taken(filled(2)), () -> {
            RollingNets x = taken(filled(2));
            for (int k = 0; k < 3; k++) {
                fill(x, 3 + k);
                goneBack(x);
            }
            return x;
        });
        Asked.same(due, "the latest taken", () -> taken(filled(2, 7)), () -> {
            RollingNets x = taken(filled(2));
            fill(x, 7);
            taken(x);
            fill(x, 8);
            return goneBack(x);
        });
    }

    private static void tapeAndFaultStay() {
        RollingNets x = new RollingNets();
        PlanTest.tape(x, "night 1;");
        x.image(true);
        PlanTest.tape(x, "night 1;night 2;call 200;night 1;");
        due.is("gone back", x.image(false), true);
        due.is("the tape is as it is now", x.end(33), true);
        due.is("the tape is as it is now", x.end(34), false);
        due.is("plan", x.plan(), -1);
        x.image(false);
        due.is("the fault, too", x.fault(0), 2);
        due.is("its place, too", x.fault(1), 21);
        due.is("the tape is empty", x.end(1), false);
    }

    private static void planIsBack() {
        RollingNets x = new RollingNets();
        PlanTest.tape(x, "price 0 11;price 0 12;price 0 13;");
        x.plan();
        x.run(1);
        x.image(true);
        x.run(24);
        PlanTest.tape(x, "night 1;");
        x.plan();
        due.is("gone back", x.image(false), true);
        due.is("lines", x.look(13), 3);
        due.is("lines run", x.look(14), 1);
        due.is("day", x.look(6), 0);
        due.is("price", x.issue(0, 0), 11);
        due.is("run", x.run(1), 1);
        due.is("price", x.issue(0, 0), 12);
    }

    /** What comes after it is the same as if the rest had never been. */
    private static void goesOn() {
        Asked.same(due, "goes on", () -> {
            RollingNets x = taken(filled(1));
            fill(x, 3);
            return x;
        }, () -> {
            RollingNets x = taken(filled(1));
            fill(x, 6);
            x.night(5);
            goneBack(x);
            fill(x, 3);
            return x;
        });
    }

    private static void ranksAreBack() {
        RollingNets x = new RollingNets();
        x.set(1, 0);
        x.trade(0, 5, 0, 1, 1);
        x.trade(1, 5, 0, 1, 1);
        x.night(1);
        x.tell(1, 0, 3, 4);
        x.image(true);
        x.tell(0, 0, 3, 5);
        due.is("0 goes first", x.queue(0, 0, 0), 0);
        x.image(false);
        due.is("1 goes first", x.queue(0, 0, 0), 1);
    }

    /** A number that a notice had before is another one's behind the image: nothing of the first is in it. */
    private static void noticesAnew() {
        RollingNets x = Make.quick();
        x.trade(0, 1, 0, 10, 100);
        x.apart(0, 1, 0, 4, 100);
        x.night(1);
        x.image(true);
        due.is("in net", x.give(0, 0, 10), 0);
        x.night(1);
        due.notice(x, 0, 0, 0, 10, 1, 0, -1, 10, 0, 10, 0, 0, 0, 0);
        x.image(false);
        due.is("none", x.notice(0, 11), -1);
        due.is("apart", x.call(1), 0);
        due.notice(x, 0, 0, 0, 4, 1, 1, 1, 0, 0, 0, 0, 0, 0, 0);
    }

    /** Taken before there was a trade: members can be told again. */
    private static void imageOfBefore() {
        RollingNets x = new RollingNets();
        x.image(true);
        x.trade(0, 1, 0, 1, 1);
        x.set(1, 3);
        x.night(4);
        due.is("set(0, 4)", x.set(0, 4), false);
        x.image(false);
        due.is("set(0, 4)", x.set(0, 4), true);
        due.is("day", x.look(6), 0);
        due.is("lag", x.look(1), 2);
        due.is("trades", x.look(7), 0);
        due.is("deal", x.deal(0, 0), -1);
        due.is("trade", x.trade(0, 1, 0, 1, 1), 0);
    }
}
