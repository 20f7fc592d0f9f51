import java.util.ArrayList;
import java.util.List;
import java.util.function.Supplier;

/**
 * A refused call changes nothing, nor does one that only asks. Two objects are made by the same calls; one of them is
 * then called in vain; whatever is asked of both behind that must be the same.
 */
public final class RefusedTest {
    private static final Due due = new Due();

    private interface Question {
        long ask(RollingNets x);
    }

    private interface Call {
        /** Whether it was refused, as is due. */
        boolean isRefused(RollingNets x);
    }

    private static final class Named {
        private final String name;
        private final Call call;

        Named(String name, Call call) {
            this.name = name;
            this.call = call;
        }
    }

    private final List<Named> calls = new ArrayList<>();
    private final String state;
    private final Supplier<RollingNets> maker;
    private final long[][] answers = new long[Asked.parts()][];

    private RefusedTest(String state, Supplier<RollingNets> maker) {
        this.state = state;
        this.maker = maker;
        for (int part = 0; part < answers.length; part++) {
            answers[part] = Asked.answers(maker.get(), part);
        }
    }

    public static void main(String[] args) {
        wrongOnes(new RefusedTest("new", RollingNets::new));
        wrongOnes(new RefusedTest("busy", RefusedTest::busy));
        wrongOnes(new RefusedTest("full", RefusedTest::full));
        wrongOnes(new RefusedTest("last day", RefusedTest::lastDay));
        ofTheBusy();
        ofTheFull();
        ofTheLastDay();
        ofTheFresh();
        due.end();
    }

    // ---- the calls in vain ----

    private void none(String name, Question call) {
        calls.add(new Named(name, x -> call.ask(x) == -1));
    }

    private void nothing(String name, Question call) {
        calls.add(new Named(name, x -> call.ask(x) == Make.NOTHING));
    }

    private void no(String name, Call call) {
        calls.add(new Named(name, call));
    }

    /** Those that only ask: whatever they answer, it is no change. */
    private void asks(String name, Question call) {
        calls.add(new Named(name, x -> call.ask(x) > Long.MIN_VALUE));
    }

    /** Makes the calls that were told, some at a time, and asks everything behind them. */
    private void end() {
        for (int from = 0; from < calls.size(); from += Asked.PART) {
            int to = Math.min(from + Asked.PART, calls.size());
            String told = state + ", behind " + calls.get(from).name + " to " + calls.get(to - 1).name + ": ";
            for (int part = 0; part < answers.length; part++) {
                RollingNets x = maker.get();
                for (Named one : calls.subList(from, to)) {
                    due.is(state + ": refused " + one.name, one.call.isRefused(x), true);
                }
                long[] got = Asked.answers(x, part);
                for (int k = 0; k < got.length; k++) {
                    due.is(told + Asked.name(part, k), got[k], answers[part][k]);
                }
            }
        }
        calls.clear();
    }

    private static void wrongOnes(RefusedTest t) {
        t.wrongSettings();
        t.end();
        t.wrongTold();
        t.end();
        t.wrongTrades();
        t.end();
        t.wrongOthers();
        t.end();
        t.wrongQuestions();
        t.end();
        t.questionsOnly();
        t.end();
    }

    private void wrongSettings() {
        int[] least = {2, 0, 1, 1, 0, 0, 0};
        int[] most = {12, 3, 9, 9, 5, 100, 100};
        for (int k = 0; k < 7; k++) {
            int what = k;
            for (int v : new int[] {least[k] - 1, most[k] + 1, Integer.MAX_VALUE, Integer.MIN_VALUE}) {
                no("set(" + what + ", " + v + ")", x -> !x.set(what, v));
            }
        }
        for (int what : new int[] {-1, 7, Integer.MAX_VALUE, Integer.MIN_VALUE}) {
            no("set(" + what + ", 2)", x -> !x.set(what, 2));
        }
        for (int p : new int[] {0, 10000, -1, Integer.MAX_VALUE}) {
            no("price(0, " + p + ")", x -> !x.price(0, p));
        }
        no("price(6, 5)", x -> !x.price(6, 5));
        no("price(-1, 5)", x -> !x.price(-1, 5));
    }

    private void wrongTold() {
        for (int k = 0; k < 3; k++) {
            int what = k;
            no("tell(0, 0, " + what + ", -1)", x -> !x.tell(0, 0, what, -1));
            no("tell(0, 0, " + what + ", 100000)", x -> !x.tell(0, 0, what, 100000));
            no("tell(-1, 0, " + what + ", 5)", x -> !x.tell(-1, 0, what, 5));
            no("tell(12, 0, " + what + ", 5)", x -> !x.tell(12, 0, what, 5));
            no("tell(0, -1, " + what + ", 5)", x -> !x.tell(0, -1, what, 5));
            no("tell(0, 6, " + what + ", 5)", x -> !x.tell(0, 6, what, 5));
        }
        no("tell(0, 0, 3, 10)", x -> !x.tell(0, 0, 3, 10));
        no("tell(0, 0, 3, -1)", x -> !x.tell(0, 0, 3, -1));
        no("tell(0, 0, 4, 1)", x -> !x.tell(0, 0, 4, 1));
        no("tell(0, 0, -1, 1)", x -> !x.tell(0, 0, -1, 1));
        no("suspend(-1, true)", x -> !x.suspend(-1, true));
        no("suspend(12, true)", x -> !x.suspend(12, true));
        no("collateral(0, -1)", x -> !x.collateral(0, -1));
        no("collateral(0, 10000000)", x -> !x.collateral(0, 10000000));
        no("collateral(12, 1)", x -> !x.collateral(12, 1));
        no("dividend(0, -1)", x -> !x.dividend(0, -1));
        no("dividend(0, 100)", x -> !x.dividend(0, 100));
        no("dividend(-1, 5)", x -> !x.dividend(-1, 5));
        no("dividend(6, 5)", x -> !x.dividend(6, 5));
    }

    private void wrongTrades() {
        int[][] wrong = {
            {2, 2, 0, 1, 1}, {-1, 0, 0, 1, 1}, {12, 0, 0, 1, 1}, {0, -1, 0, 1, 1}, {0, 12, 0, 1, 1}, {0, 1, -1, 1, 1},
            {0, 1, 6, 1, 1}, {0, 1, 0, 0, 1}, {0, 1, 0, 10000, 1}, {0, 1, 0, 1, 0}, {0, 1, 0, 1, 10000},
        };
        for (int[] w : wrong) {
            String args = "(" + w[0] + ", " + w[1] + ", " + w[2] + ", " + w[3] + ", " + w[4] + ")";
            none("trade" + args, x -> x.trade(w[0], w[1], w[2], w[3], w[4]));
            none("apart" + args, x -> x.apart(w[0], w[1], w[2], w[3], w[4]));
        }
        int[][] moves = {
            {0, 0, 0, 1}, {-1, 0, 0, 1}, {12, 0, 0, 1}, {0, -1, 0, 1}, {0, 12, 0, 1}, {0, 1, -1, 1}, {0, 1, 6, 1},
            {0, 1, 0, 0}, {0, 1, 0, -1}, {0, 1, 0, Integer.MAX_VALUE}, {0, 1, 0, Integer.MIN_VALUE},
        };
        for (int[] w : moves) {
            no("move(" + w[0] + ", " + w[1] + ", " + w[2] + ", " + w[3] + ")", x -> !x.move(w[0], w[1], w[2], w[3]));
        }
        for (int n : new int[] {-1, 0, 1, 6, Integer.MAX_VALUE}) {
            no("split(0, " + n + ")", x -> !x.split(0, n));
        }
        no("split(5, 3): 100 is no multiple", x -> !x.split(5, 3));
        no("split(-1, 2)", x -> !x.split(-1, 2));
        no("split(6, 2)", x -> !x.split(6, 2));
    }

    private void wrongOthers() {
        for (int n : new int[] {-1, 0, 21, Integer.MAX_VALUE, Integer.MIN_VALUE}) {
            none("night(" + n + ")", x -> x.night(n));
        }
        for (int k : new int[] {-1, 0, 25, Integer.MAX_VALUE, Integer.MIN_VALUE}) {
            none("run(" + k + ")", x -> x.run(k));
        }
        int[][] gives = {
            {-1, 0, 1}, {12, 0, 1}, {0, -1, 1}, {0, 6, 1}, {0, 0, 0}, {0, 0, -1}, {0, 0, 99999}, {1, 0, 1}, {0, 5, 1},
        };
        for (int[] w : gives) {
            none("give(" + w[0] + ", " + w[1] + ", " + w[2] + ")", x -> x.give(w[0], w[1], w[2]));
        }
        for (int t : new int[] {-1, 200, Integer.MAX_VALUE, Integer.MIN_VALUE, 0}) {
            none("call(" + t + ")", x -> x.call(t));
        }
        for (int n : new int[] {-1, 401, Integer.MAX_VALUE, Integer.MIN_VALUE}) {
            no("end(" + n + ")", x -> !x.end(n));
        }
    }

    private void wrongQuestions() {
        for (int far : new int[] {-1, 12, 200, 300, Integer.MAX_VALUE, Integer.MIN_VALUE}) {
            nothing("at(" + far + ", 0, 0)", x -> x.at(far, 0, 0));
            nothing("at(0, 0, " + far + ")", x -> x.at(0, 0, far));
            nothing("tomorrow(0, " + far + ", 0)", x -> x.tomorrow(0, far, 0));
            nothing("tomorrow(0, 0, " + far + ")", x -> x.tomorrow(0, 0, far));
            nothing("look(" + (far == 12 ? 20 : far) + ")", x -> x.look(far == 12 ? 20 : far));
            none("lot(0, 0, 0, " + far + ")", x -> x.lot(0, 0, 0, far));
            none("deal(0, " + far + ")", x -> x.deal(0, far));
            none("deal(" + (far == 12 ? 200 : far) + ", 0)", x -> x.deal(far == 12 ? 200 : far, 0));
            none("notice(" + (far == 12 ? 60 : far) + ", 0)", x -> x.notice(far == 12 ? 60 : far, 0));
            none("issue(0, " + far + ")", x -> x.issue(0, far));
            none("book(0, " + far + ")", x -> x.book(0, far));
            none("margin(0, " + far + ")", x -> x.margin(0, far));
            none("queue(" + far + ", 0, 0)", x -> x.queue(far, 0, 0));
            none("queue(0, 0, " + far + ")", x -> x.queue(0, 0, far));
            none("statement(0, " + far + ", true)", x -> x.statement(0, far, true));
            none("ahead(0, " + far + ")", x -> x.ahead(0, far));
            none("reached(0, " + far + ")", x -> x.reached(0, far));
            none("fault(" + far + ")", x -> x.fault(far));
            none("aged(" + far + ", 0)", x -> x.aged(far, 0));
        }
        none("stress(100)", x -> x.stress(100));
        none("stress(-100)", x -> x.stress(-100));
        none("aged(0, 100)", x -> x.aged(0, 100));
    }

    private void questionsOnly() {
        for (int k = 0; k < 6; k++) {
            int n = k;
            asks("tomorrow(" + n + ", 0, 0)", x -> x.tomorrow(n, 0, 0));
            asks("tomorrow(" + n + ", 1, 9)", x -> x.tomorrow(n, 1, 9));
            asks("ahead(" + n + ", 0)", x -> x.ahead(n, 0));
            asks("queue(" + n + ", 0, 0)", x -> x.queue(n, 0, 0));
            asks("reached(" + n + ", 0)", x -> x.reached(n, 0));
            asks("stress(" + n + ")", x -> x.stress(n));
            asks("margin(" + n + ", 0)", x -> x.margin(n, 0));
            asks("look(" + n + ")", x -> x.look(11 + n));
            asks("statement(" + n + ", 1, true)", x -> x.statement(n, 1, true));
            asks("aged(" + n + ", 1)", x -> x.aged(n, 1));
            asks("issue(" + n + ", 4)", x -> x.issue(n, 4));
            asks("lot(" + n + ", 0, 0, 0)", x -> x.lot(n, 0, 0, 0));
        }
    }

    // ---- the states ----

    private static void ofTheFresh() {
        RefusedTest t = new RefusedTest("new", RollingNets::new);
        t.no("image(false)", x -> !x.image(false));
        t.no("end(1)", x -> !x.end(1));
        t.none("call(0)", x -> x.call(0));
        t.none("give(0, 0, 1)", x -> x.give(0, 0, 1));
        t.no("move(0, 1, 0, 1)", x -> !x.move(0, 1, 0, 1));
        t.end();
    }

    /**
     * Some of everything: TRADES open and done, of both sorts; LOTS, loans, NOTICES of both sorts; a plan that has been
     * begun, an image, and what is told for the next night.
     */
    private static RollingNets busy() {
        RollingNets x = Make.quick();
        x.set(2, 1);
        x.set(4, 2);
        x.set(6, 50);
        x.trade(0, 1, 0, 20, 90);
        x.trade(2, 1, 0, 10, 110);
        x.trade(3, 4, 1, 10, 100);
        x.apart(4, 5, 0, 6, 80);
        x.apart(5, 2, 0, 9, 70);
        x.apart(3, 0, 1, 2, 70);
        x.tell(1, 0, 0, 4);
        x.tell(0, 1, 0, 2);
        x.night(1);
        x.tell(3, 0, 0, 30);
        x.tell(3, 0, 1, 3);
        x.tell(3, 0, 2, 5);
        x.tell(2, 0, 3, 4);
        x.image(true);
        x.night(1);
        x.give(0, 0, 7);
        x.give(3, 1, 10);
        x.call(3);
        x.set(1, 2);
        x.trade(1, 0, 0, 3, 100);
        x.trade(4, 3, 5, 3, 100);
        x.price(0, 130);
        x.price(1, 90);
        x.dividend(0, 3);
        x.dividend(1, 2);
        x.suspend(4, true);
        x.collateral(1, 444);
        Make.tape(x, "price 0 99;night 1;stock 0 0 7;buy 9 9 9");
        x.end(31);
        x.plan();
        x.run(1);
        Make.tape(x, "call 0;call 1;call");
        return x;
    }

    private static void ofTheBusy() {
        RefusedTest t = new RefusedTest("busy", RefusedTest::busy);
        for (int m = 1; m <= 13; m++) {
            int v = m;
            t.no("set(0, " + v + ")", x -> !x.set(0, v));
        }
        t.no("tell(6, 0, 0, 5)", x -> !x.tell(6, 0, 0, 5));
        t.no("suspend(6, true)", x -> !x.suspend(6, true));
        t.no("collateral(6, 5)", x -> !x.collateral(6, 5));
        t.none("trade(6, 0, 0, 1, 1)", x -> x.trade(6, 0, 0, 1, 1));
        t.none("apart(0, 6, 0, 1, 1)", x -> x.apart(0, 6, 0, 1, 1));
        t.no("move(3, 6, 0, 1)", x -> !x.move(3, 6, 0, 1));
        t.no("move(3, 0, 0, 23): 22 are free", x -> !x.move(3, 0, 0, 23));
        t.no("move(4, 0, 0, 1): suspended", x -> !x.move(4, 0, 0, 1));
        t.no("split(0, 2): open", x -> !x.split(0, 2));
        t.no("split(1, 2): a notice is open", x -> !x.split(1, 2));
        t.no("split(5, 2): a trade is open", x -> !x.split(5, 2));
        t.no("split(4, 3): no multiple", x -> !x.split(4, 3));
        t.none("give(0, 0, 1): one is open", x -> x.give(0, 0, 1));
        t.none("give(1, 0, 1): short", x -> x.give(1, 0, 1));
        t.none("give(2, 0, 11): too many", x -> x.give(2, 0, 11));
        t.none("call(0): not apart", x -> x.call(0));
        t.none("call(3): one is open", x -> x.call(3));
        t.none("call(5): done", x -> x.call(5));
        t.no("end(19)", x -> !x.end(19));
        t.end();
    }

    /** 200 TRADES, 60 NOTICES, 300 lines, 24 lines of a plan, of which one was run, 400 bytes. */
    private static RollingNets full() {
        RollingNets x = Make.quick();
        x.set(4, 5);
        for (int issue = 0; issue < 6; issue++) {
            x.trade(0, 1, issue, 100, 100);
        }
        for (int k = 0; k < 194; k++) {
            x.apart(2, k < 160 ? 3 : 4, k < 160 ? 0 : 2, 1, 100);
        }
        // 160 lines of these; 34 wait on. Then 12 a night, and 8 at last.
        x.tell(3, 0, 0, 160);
        x.night(1);
        for (int lines = 160; lines < 300; lines += 12) {
            for (int issue = 0; issue < Math.min(6, (300 - lines) / 2); issue++) {
                x.tell(1, issue, 0, 1);
            }
            x.night(1);
        }
        for (int k = 166; k < 200; k++) {
            x.call(k);
        }
        int given = 34;
        for (int issue = 0; issue < 6; issue++) {
            given = x.give(0, issue, 3) >= 0 ? given + 1 : given;
        }
        // Six nights of 20 more would be too many calls: the rest is given, closed and given again.
        for (int k = 0; given < 60 && k < 8; k++) {
            x.set(4, 0);
            x.night(given < 41 ? 6 : 1);
            for (int issue = 0; issue < 6 && given < 60; issue++) {
                given = x.give(0, issue, 3) >= 0 ? given + 1 : given;
            }
        }
        Make.tape(x, Make.times("price 0 50;", 12) + Make.times("rank 2 2;", 12));
        x.plan();
        x.run(1);
        for (int k = 0; k < 20; k++) {
            x.feed(k, 0x20202020, 0x20202020, 0x20202020, 0x20202020);
        }
        return x;
    }

    private static void ofTheFull() {
        RollingNets full = full();
        int[] want = {6, 0, 2, 1, 0, 10};
        for (int what = 0; what < want.length; what++) {
            due.is("full: look(" + what + ")", full.look(what), want[what]);
        }
        due.is("full: trades", full.look(7), 200);
        due.is("full: notices", full.look(8), 60);
        due.is("full: open ones", full.look(9) > 0, true);
        due.is("full: lines", full.look(10), 300);
        due.is("full: lines of the plan", full.look(13), 24);
        due.is("full: lines that were run", full.look(14), 1);
        due.is("full: end(400)", full.end(400), true);
        RefusedTest t = new RefusedTest("full", RefusedTest::full);
        t.none("trade(0, 1, 0, 1, 1)", x -> x.trade(0, 1, 0, 1, 1));
        t.none("apart(0, 1, 0, 1, 1)", x -> x.apart(0, 1, 0, 1, 1));
        for (int k = 0; k < 6; k++) {
            int issue = k;
            t.none("give(0, " + issue + ", 1)", x -> x.give(0, issue, 1));
        }
        t.none("call(0)", x -> x.call(0));
        t.none("call(6)", x -> x.call(6));
        t.none("call(199)", x -> x.call(199));
        t.none("feed", x -> x.feed(1, 2, 3, 4, 5));
        t.no("end(401)", x -> !x.end(401));
        t.no("set(0, 6)", x -> !x.set(0, 6));
        t.none("deal(200, 0)", x -> x.deal(200, 0));
        t.none("notice(60, 0)", x -> x.notice(60, 0));
        t.none("book(300, 0)", x -> x.book(300, 0));
        t.end();
    }

    private static RollingNets lastDay() {
        RollingNets x = busy();
        Make.nights(x, 97);
        x.trade(0, 1, 0, 3, 100);
        x.apart(2, 3, 0, 3, 100);
        return x;
    }

    private static void ofTheLastDay() {
        RollingNets last = lastDay();
        due.is("last day: day", last.look(6), 99);
        RefusedTest t = new RefusedTest("last day", RefusedTest::lastDay);
        for (int n = 1; n <= 20; n++) {
            int nights = n;
            t.none("night(" + nights + ")", x -> x.night(nights));
        }
        for (int w = 0; w < 10; w++) {
            int what = w;
            t.nothing("tomorrow(0, 0, " + what + ")", x -> x.tomorrow(0, 0, what));
        }
        t.no("set(0, 6)", x -> !x.set(0, 6));
        t.none("call(9): due in days to come", x -> x.call(x.look(7) - 1));
        t.end();
    }
}
