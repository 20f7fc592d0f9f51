import java.util.Random;

/**
 * Runs of drawn calls, the same each time, on RollingNets and on the Model: every answer must be
 * the same, and behind each run everything that can be asked. This has every promise, 1 to 36.
 */
public final class FuzzTest {
    private static final int RUNS = 700;
    private static final int CALLS = 450;

    private static int wrong = 0;

    private final Random draw;
    private final RollingNets x = new RollingNets();
    private final Model y = new Model();
    private final StringBuilder told = new StringBuilder();
    private final int members;
    private final int issues;
    private final int sharesMost;
    private final int wrongOneIn;
    private final boolean isRich;
    private boolean isWrong = false;

    private FuzzTest(int seed) {
        // Random draws nearly alike at first from seeds that are near one another.
        draw = new Random(seed * 0x9E3779B97F4A7C15L);
        members = 2 + draw.nextInt(draw.nextBoolean() ? 4 : 11);
        issues = 1 + draw.nextInt(draw.nextBoolean() ? 1 : 6);
        sharesMost = draw.nextInt(4) == 0 ? 9999 : 60;
        wrongOneIn = draw.nextBoolean() ? 25 : 400;
        isRich = seed % 6 == 5;
    }

    public static void main(String[] args) {
        int calls = 0;
        for (int seed = 0; seed < RUNS; seed++) {
            FuzzTest run = new FuzzTest(seed);
            run.start();
            for (int k = 0; k < CALLS && !run.isWrong; k++) {
                run.step();
                calls++;
            }
            if (!run.isWrong) {
                run.askAll();
            }
            if (run.isWrong) {
                System.out.println("seed " + seed + ":\n" + run.told);
                wrong++;
                if (wrong == 3) {
                    break;
                }
            }
        }
        System.out.println(calls + " drawn calls, " + wrong + " runs wrong");
        if (wrong != 0) {
            System.exit(1);
        }
    }

    private void same(String call, long got, long want) {
        told.append(call).append(" = ").append(got).append('\n');
        if (got != want && !isWrong) {
            isWrong = true;
            told.append("  here the Model answers ").append(want).append('\n');
        }
    }

    private void same(String call, boolean got, boolean want) {
        same(call, got ? 1 : 0, want ? 1 : 0);
    }

    private static String text(String name, Object... args) {
        StringBuilder text = new StringBuilder(name).append('(');
        for (int k = 0; k < args.length; k++) {
            text.append(k == 0 ? "" : ", ").append(args[k]);
        }
        return text.append(')').toString();
    }

    /** A number from least to most; now and then one that is just beyond them, or far. */
    private int number(int least, int most) {
        if (draw.nextInt(wrongOneIn) == 0) {
            int[] odd = {least - 1, most + 1, -1, Integer.MIN_VALUE, Integer.MAX_VALUE, least, most};
            return odd[draw.nextInt(odd.length)];
        }
        return least + draw.nextInt(most - least + 1);
    }

    private int member() {
        return number(0, members - 1);
    }

    private int issue() {
        return number(0, issues - 1);
    }

    private void start() {
        set(0, members);
        set(1, draw.nextInt(3));
        set(2, 1 + draw.nextInt(4));
        set(3, 1 + draw.nextInt(4));
        set(4, draw.nextInt(3));
        set(5, draw.nextInt(101));
        set(6, draw.nextBoolean() ? 0 : draw.nextInt(101));
        if (isRich) {
            grow();
        }
        for (int k = 0; k < members; k++) {
            for (int i = 0; i < issues; i++) {
                if (draw.nextInt(3) == 0) {
                    tell(k, i, 0, draw.nextInt(2 * sharesMost));
                    tell(k, i, 2, draw.nextInt(3) == 0 ? draw.nextInt(2 * sharesMost) : 0);
                }
            }
        }
    }

    /** One MEMBER gets more STOCK of ISSUE 0 than an int can tell: it is not there when the others' is SPLIT. */
    private void grow() {
        int rich = 11;
        int[] by = {5, 5, 5, 2, 2, 2};
        for (int round = 0; round < 2; round++) {
            set(0, rich);
            for (int k = 0; k < rich; k++) {
                tell(k, 0, 0, 99999);
            }
            same("price(0, 4000)", x.price(0, 4000), y.price(0, 4000));
            same("night(1)", x.night(1), y.night(1));
            for (int n : by) {
                same(text("split", 0, n), x.split(0, n), y.split(0, n));
            }
            set(0, 12);
            for (int k = 0; k < rich; k++) {
                move(k, rich, 0, 99999000);
            }
        }
        if (members < 12) {
            move(rich, members - 1, 0, Integer.MAX_VALUE);
            move(rich, members - 1, 0, 1 + draw.nextInt(50000000));
        }
        set(0, members);
    }

    private void move(int from, int to, int i, int n) {
        same(text("move", from, to, i, n), x.move(from, to, i, n), y.move(from, to, i, n));
    }

    private void set(int what, int v) {
        same(text("set", what, v), x.set(what, v), y.set(what, v));
    }

    private void tell(int k, int i, int what, int v) {
        same(text("tell", k, i, what, v), x.tell(k, i, what, v), y.tell(k, i, what, v));
    }

    private void step() {
        int kind = draw.nextInt(100);
        if (kind < 16) {
            doTrade();
        } else if (kind < 26) {
            doApart();
        } else if (kind < 36) {
            doNight();
        } else if (kind < 50) {
            doTell();
        } else if (kind < 60) {
            doGive();
        } else if (kind < 66) {
            doCall();
        } else if (kind < 76) {
            doRare();
        } else if (kind < 79) {
            doPlan();
        } else {
            ask();
        }
    }

    private void doTrade() {
        int b = member();
        int s = member();
        int i = issue();
        int n = number(1, sharesMost);
        int p = number(1, draw.nextBoolean() ? 200 : 9999);
        same(text("trade", b, s, i, n, p), x.trade(b, s, i, n, p), y.trade(b, s, i, n, p));
    }

    private void doApart() {
        int b = member();
        int s = member();
        int i = issue();
        int n = number(1, sharesMost);
        int p = number(1, 200);
        same(text("apart", b, s, i, n, p), x.apart(b, s, i, n, p), y.apart(b, s, i, n, p));
    }

    private void doNight() {
        int n = draw.nextInt(4) == 0 ? number(1, 4) : 1;
        n = draw.nextInt(40) == 0 ? number(1, 20) : n;
        same(text("night", n), x.night(n), y.night(n));
    }

    private void doTell() {
        if (draw.nextInt(8) == 0) {
            set(number(1, 6), number(0, draw.nextBoolean() ? 3 : 100));
        } else if (draw.nextInt(5) == 0) {
            tell(member(), issue(), 3, number(0, draw.nextBoolean() ? 2 : 9));
        } else {
            int most = draw.nextInt(10) == 0 ? 99999 : sharesMost;
            tell(member(), issue(), number(0, 2), draw.nextInt(4) == 0 ? 0 : number(0, most));
        }
    }

    private void doGive() {
        int k = member();
        int i = issue();
        int n = number(1, sharesMost);
        // Most lots are too young, or too few: look for some that can be given.
        for (int tries = 0; tries < 20 && Model.anIssue(i); tries++) {
            int o = draw.nextInt(members);
            if (y.longOf(o, i) > 0 && y.s.lots.get(o).get(i).get(0).day <= y.s.day - y.s.set[3]) {
                k = o;
                n = number(1, y.longOf(o, i));
            }
        }
        same(text("give", k, i, n), x.give(k, i, n), y.give(k, i, n));
    }

    private void doCall() {
        int t = number(0, Math.max(0, y.s.trades.size() - 1));
        for (int tries = 0; tries < 20 && !y.s.trades.isEmpty(); tries++) {
            int o = draw.nextInt(y.s.trades.size());
            if (y.s.trades.get(o).apart && y.s.trades.get(o).open > 0) {
                t = o;
            }
        }
        same(text("call", t), x.call(t), y.call(t));
    }

    private void doRare() {
        int k = member();
        int i = issue();
        switch (draw.nextInt(9)) {
            case 0: {
                int v = number(0, 99);
                same(text("dividend", i, v), x.dividend(i, v), y.dividend(i, v));
                break;
            }
            case 1: {
                boolean isMuch = isRich && draw.nextInt(8) == 0;
                move(k, member(), i, isMuch ? draw.nextInt(Integer.MAX_VALUE) : number(1, sharesMost));
                break;
            }
            case 2: {
                int n = number(2, 5);
                same(text("split", i, n), x.split(i, n), y.split(i, n));
                break;
            }
            case 3: {
                boolean is = draw.nextInt(3) == 0;
                same(text("suspend", k, is), x.suspend(k, is), y.suspend(k, is));
                break;
            }
            case 4: {
                int v = number(0, draw.nextBoolean() ? 9999999 : 5000);
                same(text("collateral", k, v), x.collateral(k, v), y.collateral(k, v));
                break;
            }
            case 5:
                same("image(true)", x.image(true), y.image(true));
                break;
            case 6: {
                boolean is = draw.nextInt(3) != 0;
                same(text("image", is), x.image(is), y.image(is));
                break;
            }
            case 7:
                if (draw.nextInt(20) == 0) {
                    set(0, number(2, 12));
                }
                break;
            default: {
                int p = draw.nextBoolean() ? number(1, 9999) : 60 * (1 + draw.nextInt(3));
                same(text("price", i, p), x.price(i, p), y.price(i, p));
                break;
            }
        }
    }

    private static final String[] WORDS = {
        "buy", "apart", "stock", "reserve", "lend", "rank", "price", "give", "call", "night",
    };
    private static final String[] SHAPES = {
        "MMINP", "MMINP", "MIZ", "MIZ", "MIZ", "MR", "IP", "MIN", "T", "K",
    };

    private void doPlan() {
        int kind = draw.nextInt(4);
        if (kind == 0) {
            int k = number(1, 24);
            same(text("run", k), x.run(k), y.run(k));
            return;
        }
        if (kind == 1) {
            int n = number(0, 400);
            same(text("end", n), x.end(n), y.end(n));
        }
        feedText(planText());
        same("plan()", x.plan(), y.plan());
        askFault();
        if (draw.nextBoolean()) {
            int k = number(1, 24);
            same(text("run", k), x.run(k), y.run(k));
        }
    }

    private String planText() {
        StringBuilder text = new StringBuilder();
        int lines = draw.nextInt(4) == 0 ? 20 + draw.nextInt(10) : draw.nextInt(8);
        for (int l = 0; l < lines; l++) {
            int word = lines > 19 && draw.nextInt(10) != 0 ? 5 + 3 * draw.nextInt(2) : draw.nextInt(WORDS.length);
            text.append(WORDS[word]);
            for (char sort : SHAPES[word].toCharArray()) {
                text.append(draw.nextInt(6) == 0 ? "\n " : " ");
                text.append(planNumber(sort));
            }
            text.append(draw.nextInt(5) == 0 ? " ; " : ";");
        }
        for (int k = draw.nextInt(3) - 1; k > 0 && text.length() > 0; k--) {
            String odd = "; 0a1Zbuy\t\n-99\u0080\u00ff";
            text.setCharAt(draw.nextInt(text.length()), odd.charAt(draw.nextInt(odd.length())));
        }
        if (draw.nextInt(8) == 0 && text.length() > 0) {
            text.setLength(draw.nextInt(text.length()));
        }
        return text.toString();
    }

    private String planNumber(char sort) {
        int most = sort == 'M' ? members - 1 : sort == 'I' ? issues - 1 : sort == 'R' ? 9
                : sort == 'T' ? Math.max(1, y.s.trades.size()) : sort == 'K' ? 3 : 60;
        int least = sort == 'N' || sort == 'P' || sort == 'K' ? 1 : 0;
        if (draw.nextInt(120) == 0) {
            int[] odd = {0, 5, 6, 9, 10, 11, 12, 20, 21, 199, 200, 9999, 10000, 100000};
            return String.valueOf(odd[draw.nextInt(odd.length)]);
        }
        int v = least + draw.nextInt(most - least + 1);
        return draw.nextInt(30) == 0 ? String.format("%04d", v) : String.valueOf(v);
    }

    private void feedText(String text) {
        String whole = text;
        while (whole.length() % 20 != 0 || whole.isEmpty()) {
            whole += "?";
        }
        int before = y.tape.length();
        for (int k = 0; k + 20 <= whole.length(); k += 20) {
            int[] v = new int[5];
            for (int b = 0; b < 20; b++) {
                v[b / 4] = v[b / 4] << 8 | whole.charAt(k + b);
            }
            same(text("feed", v[0], v[1], v[2], v[3], v[4]), x.feed(v[0], v[1], v[2], v[3], v[4]), y.feed(v));
        }
        int n = before + text.length();
        same(text("end", n), x.end(n), y.end(n));
    }

    private void askFault() {
        for (int what = -1; what <= 2; what++) {
            same(text("fault", what), x.fault(what), y.fault(what));
        }
    }

    private void ask() {
        int k = member();
        int i = issue();
        int what = number(0, 9);
        switch (draw.nextInt(14)) {
            case 0:
            case 1:
            case 2:
                same(text("tomorrow", k, i, what), x.tomorrow(k, i, what), y.tomorrow(k, i, what));
                break;
            case 3:
                same(text("ahead", k, i), x.ahead(k, i), y.ahead(k, i));
                break;
            case 4:
                askQueue(i);
                break;
            case 5: {
                int t = number(0, Math.max(0, y.s.trades.size() - 1));
                int w = number(0, 1);
                same(text("reached", t, w), x.reached(t, w), y.reached(t, w));
                break;
            }
            case 6: {
                int p = number(-99, 99);
                same(text("stress", p), x.stress(p), y.stress(p));
                break;
            }
            case 7: {
                int days = number(0, draw.nextBoolean() ? 5 : 99);
                same(text("aged", i, days), x.aged(i, days), y.aged(i, days));
                break;
            }
            case 8: {
                int w = number(0, 2);
                same(text("margin", k, w), x.margin(k, w), y.margin(k, w));
                break;
            }
            case 9:
                same(text("issue", i, what), x.issue(i, what), y.issue(i, what));
                break;
            case 10: {
                int w = number(0, 19);
                same(text("look", w), x.look(w), y.look(w));
                break;
            }
            case 11:
                same(text("at", k, i, what), x.at(k, i, what), y.at(k, i, what));
                break;
            case 12:
                askAll();
                break;
            default:
                same(text("cash", k), x.cash(k), y.cash(k));
                break;
        }
    }

    private void askQueue(int i) {
        int size = x.queue(i, -1, 0);
        same(text("queue", i, -1, 0), size, y.queue(i, -1, 0));
        for (int j = -2; j <= size; j++) {
            for (int what = -1; what <= 3; what++) {
                same(text("queue", i, j, what), x.queue(i, j, what), y.queue(i, j, what));
            }
        }
    }

    /** All that there is; what was said of it is kept only if one answer is wrong. */
    private void askAll() {
        int before = told.length();
        for (int what = -1; what <= 20; what++) {
            same(text("look", what), x.look(what), y.look(what));
        }
        askFault();
        for (int k = -1; k <= 12; k++) {
            askMember(k);
        }
        for (int i = -1; i <= 6; i++) {
            for (int what = -1; what <= 9; what++) {
                same(text("issue", i, what), x.issue(i, what), y.issue(i, what));
            }
            for (int days = -1; days <= 100; days += 1 + days / 5) {
                same(text("aged", i, days), x.aged(i, days), y.aged(i, days));
            }
            askQueue(i);
        }
        askRows();
        if (!isWrong) {
            told.setLength(before);
        }
    }

    private void askMember(int k) {
        same(text("cash", k), x.cash(k), y.cash(k));
        for (int what = -1; what <= 5; what++) {
            same(text("margin", k, what), x.margin(k, what), y.margin(k, what));
            same(text("statement", k, what, true), x.statement(k, what, true), y.statement(k, what, true));
            same(text("statement", k, what, false), x.statement(k, what, false), y.statement(k, what, false));
        }
        for (int i = -1; i <= issues; i++) {
            same(text("ahead", k, i), x.ahead(k, i), y.ahead(k, i));
            for (int what = -1; what <= 10; what++) {
                same(text("at", k, i, what), x.at(k, i, what), y.at(k, i, what));
            }
            int lots = Math.max(0, x.at(k, i, 6));
            for (int j = -1; j <= lots; j++) {
                for (int what = -1; what <= 2; what++) {
                    same(text("lot", k, i, j, what), x.lot(k, i, j, what), y.lot(k, i, j, what));
                }
            }
        }
    }

    private void askRows() {
        for (int t = -1; t <= y.s.trades.size(); t++) {
            for (int what = -1; what <= 8; what++) {
                same(text("deal", t, what), x.deal(t, what), y.deal(t, what));
                same(text("reached", t, what), x.reached(t, what), y.reached(t, what));
            }
        }
        for (int j = -1; j <= y.s.notices.size(); j++) {
            for (int what = -1; what <= 22; what++) {
                same(text("notice", j, what), x.notice(j, what), y.notice(j, what));
            }
        }
        for (int j = -1; j <= y.s.book.size(); j++) {
            for (int what = -1; what <= 6; what++) {
                same(text("book", j, what), x.book(j, what), y.book(j, what));
            }
        }
        for (int p = -100; p <= 100; p += 25) {
            same(text("stress", p), x.stress(p), y.stress(p));
        }
    }
}
