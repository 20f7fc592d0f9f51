/** Promises 15 to 19: the tape, plans and their faults, and running them. */
public final class PlanTest {
    private static final Due due = new Due();
    private static final int BLANKS = 0x20202020;

    public static void main(String[] args) {
        feed();
        feedBytes();
        end();
        emptyPlan();
        planIsKept();
        everyWord();
        bounds();
        faultPlaces();
        faultTokens();
        faultEnds();
        faultLines();
        faultFirst();
        blanksAndTokens();
        run();
        runRefused();
        runWords();
        runNights();
        faultWrong();
        due.end();
    }

    /** Puts a text on the tape, whatever was there. */
    static void tape(RollingNets x, String text) {
        x.end(0);
        StringBuilder whole = new StringBuilder(text);
        while (whole.length() % 20 != 0) {
            whole.append('#');
        }
        for (int k = 0; k < whole.length(); k += 20) {
            int[] v = new int[5];
            for (int b = 0; b < 20; b++) {
                v[b / 4] = v[b / 4] << 8 | whole.charAt(k + b);
            }
            x.feed(v[0], v[1], v[2], v[3], v[4]);
        }
        due.is("end of the text", x.end(text.length()), true);
    }

    private static int plan(RollingNets x, String text) {
        tape(x, text);
        return x.plan();
    }

    private static void good(String text, int lines) {
        RollingNets x = new RollingNets();
        due.is("plan: " + text, plan(x, text), lines);
        due.is("fault(0): " + text, x.fault(0), 0);
        due.is("fault(1): " + text, x.fault(1), -1);
        due.is("look(13): " + text, x.look(13), lines);
        due.is("look(14): " + text, x.look(14), 0);
    }

    private static void bad(String text, int fault, int place) {
        RollingNets x = new RollingNets();
        due.is("plan: " + text, plan(x, text), -1);
        due.is("fault(0): " + text, x.fault(0), fault);
        due.is("fault(1): " + text, x.fault(1), place);
        due.is("look(13): " + text, x.look(13), 0);
    }

    private static void feed() {
        RollingNets x = new RollingNets();
        for (int k = 1; k <= 20; k++) {
            due.is("feed", x.feed(BLANKS, BLANKS, BLANKS, BLANKS, BLANKS), 20 * k);
        }
        due.is("feed beyond 400", x.feed(0, 0, 0, 0, 0), -1);
        due.is("end(381)", x.end(381), true);
        due.is("feed beyond 400", x.feed(0, 0, 0, 0, 0), -1);
        due.is("nothing came", x.end(382), false);
        due.is("end(380)", x.end(380), true);
        due.is("feed to 400", x.feed(BLANKS, BLANKS, BLANKS, BLANKS, BLANKS), 400);
        due.is("plan of blanks", x.plan(), 0);
        due.is("the tape is empty then", x.feed(BLANKS, BLANKS, BLANKS, BLANKS, BLANKS), 20);
    }

    /** Of each number the highest byte first: "night 1;rank 0 1 ; " as numbers. */
    private static void feedBytes() {
        RollingNets x = new RollingNets();
        due.is("feed", x.feed(0x6e696768, 0x7420313b, 0x72616e6b, 0x20302031, 0x203b2020), 20);
        due.is("plan", x.plan(), 2);
        due.is("feed", x.feed(-1, 0, 0, 0, 0), 20);
        due.is("plan", x.plan(), -1);
        due.is("byte 255", x.fault(1), 0);
        due.is("feed", x.feed(0x20202080, 0, 0, 0, 0), 20);
        due.is("plan", x.plan(), -1);
        due.is("byte 128", x.fault(1), 3);
        due.is("feed", x.feed(0x200a20a0, 0, 0, 0, 0), 20);
        due.is("plan", x.plan(), -1);
        due.is("byte 160", x.fault(1), 3);
    }

    private static void end() {
        RollingNets x = new RollingNets();
        due.is("end(0)", x.end(0), true);
        due.is("end(1)", x.end(1), false);
        due.is("end(-1)", x.end(-1), false);
        x.feed(0x6e696768, 0x7420313b, 0x72616e6b, 0x20302031, 0x203b2020);
        due.is("end(21)", x.end(21), false);
        due.is("end(-1)", x.end(-1), false);
        due.is("end(MAX)", x.end(Integer.MAX_VALUE), false);
        due.is("end(MIN)", x.end(Integer.MIN_VALUE), false);
        due.is("end(20)", x.end(20), true);
        due.is("end(8)", x.end(8), true);
        due.is("end(9)", x.end(9), false);
        due.is("feed", x.feed(0x6e696768, 0x7420313b, 0x72616e6b, 0x20302031, 0x203b2020), 28);
        due.is("plan", x.plan(), 3);
        due.is("the tape is empty then", x.end(1), false);
        x.feed(0, 0, 0, 0, 0);
        due.is("plan", x.plan(), -1);
        due.is("with a fault, too", x.end(1), false);
    }

    private static void emptyPlan() {
        RollingNets x = new RollingNets();
        due.is("plan", x.plan(), 0);
        due.is("fault", x.fault(0), 0);
        due.is("run", x.run(1), 0);
        due.is("plan", plan(x, "rank 0 1;"), 1);
        due.is("an empty one takes its place", x.plan(), 0);
        due.is("look(13)", x.look(13), 0);
    }

    /** With a fault the plan stays as it was, and goes on. */
    private static void planIsKept() {
        RollingNets x = new RollingNets();
        due.is("plan", plan(x, "rank 0 1;rank 0 2;rank 0 3;"), 3);
        due.is("run(1)", x.run(1), 1);
        due.is("fault", plan(x, "night 1;night 2;rank"), -1);
        due.is("fault(1)", x.fault(1), 20);
        due.is("look(13)", x.look(13), 3);
        due.is("look(14)", x.look(14), 1);
        due.is("run(24)", x.run(24), 2);
        due.is("look(14)", x.look(14), 3);
        due.is("day", x.look(6), 0);
        due.is("plan", plan(x, "night 1;"), 1);
        due.is("fault(0)", x.fault(0), 0);
        due.is("fault(1)", x.fault(1), -1);
        due.is("at its beginning", x.look(14), 0);
        due.is("run(1)", x.run(1), 1);
        due.is("day", x.look(6), 1);
    }

    private static void everyWord() {
        good("buy 0 1 2 3 4;", 1);
        good("apart 0 1 2 3 4;", 1);
        good("stock 0 1 2;", 1);
        good("reserve 0 1 2;", 1);
        good("lend 0 1 2;", 1);
        good("rank 0 1;", 1);
        good("price 0 1;", 1);
        good("give 0 1 2;", 1);
        good("call 0;", 1);
        good("night 1;", 1);
        good("night 1;call 0;give 0 1 2;price 0 1;rank 0 1;lend 0 1 2;reserve 0 1 2;stock 0 1 2;"
                + "apart 0 1 2 3 4;buy 0 1 2 3 4;", 10);
        String[] none = {"bu", "buyy", "Buy", "BUY", "b", "sell", "nights", "x", "set", "tell", "a", "priced"};
        for (String word : none) {
            bad(word + " 1;", 1, 0);
        }
        bad("buy 0 1 2 3;", 1, 11);
        bad("buy 0 1 2 3 4 5;", 1, 14);
        bad("stock 0 1;", 1, 9);
        bad("stock 0 1 2 3;", 1, 12);
        bad("rank 0;", 1, 6);
        bad("rank 0 1 2;", 1, 9);
        bad("price 0 1 2;", 1, 10);
        bad("give 0 1;", 1, 8);
        bad("give 0 1 2 3;", 1, 11);
        bad("call;", 1, 4);
        bad("call 0 1;", 1, 7);
        bad("night;", 1, 5);
        bad("night 1 1;", 1, 8);
    }

    /** Each number at its bounds, and just beyond: fault 2 at its place. */
    private static void bounds() {
        String[] words = {"buy", "apart", "stock", "reserve", "lend", "rank", "price", "give", "call", "night"};
        int[][][] all = {
            {{0, 11}, {0, 11}, {0, 5}, {1, 9999}, {1, 9999}},
            {{0, 11}, {0, 11}, {0, 5}, {1, 9999}, {1, 9999}},
            {{0, 11}, {0, 5}, {0, 9999}},
            {{0, 11}, {0, 5}, {0, 9999}},
            {{0, 11}, {0, 5}, {0, 9999}},
            {{0, 11}, {0, 9}},
            {{0, 5}, {1, 9999}},
            {{0, 11}, {0, 5}, {1, 9999}},
            {{0, 199}},
            {{1, 20}},
        };
        for (int word = 0; word < words.length; word++) {
            for (int k = 0; k < all[word].length; k++) {
                oneNumber(words[word], all[word], k, all[word][k][0], 0);
                oneNumber(words[word], all[word], k, all[word][k][1], 0);
                if (all[word][k][0] == 1) {
                    oneNumber(words[word], all[word], k, 0, 2);
                }
                oneNumber(words[word], all[word], k, all[word][k][1] + 1, all[word][k][1] == 9999 ? 1 : 2);
            }
        }
    }

    private static void oneNumber(String word, int[][] shape, int k, int v, int fault) {
        StringBuilder text = new StringBuilder(word);
        int place = 0;
        for (int n = 0; n < shape.length; n++) {
            text.append(' ');
            if (n == k) {
                place = text.length();
            }
            text.append(n == k ? v : 1);
        }
        text.append(';');
        if (fault == 0) {
            good(text.toString(), 1);
        } else {
            bad(text.toString(), fault, place);
        }
    }

    private static void faultPlaces() {
        bad(";", 1, 0);
        bad("  ;", 1, 2);
        bad("7", 1, 0);
        bad("buy buy 1 2 3 4;", 1, 4);
        bad("buy 0 1 2 x 4;", 1, 10);
        bad("buy 0 1 2 3 4 night 1;", 1, 14);
        bad("night 1;;", 1, 8);
        bad("night 1; 5;", 1, 9);
        bad("night 1;\nnight\n21;", 2, 15);
        bad("night 1\nnight 1;", 1, 8);
    }

    private static void faultTokens() {
        bad("night 12345;", 1, 6);
        bad("night 00001;", 1, 6);
        good("night 0001;", 1);
        good("night 01;", 1);
        bad("night -1;", 1, 6);
        bad("night\t1;", 1, 5);
        bad("night 1,", 1, 7);
        bad("night 1:", 1, 7);
        bad("night 1/", 1, 7);
        bad("night\r1;", 1, 5);
        bad("night @;", 1, 6);
        bad("night 1x;", 1, 7);
        bad("ni ght 1;", 1, 0);
        bad("night 1[;", 1, 7);
        bad("night`1;", 1, 5);
        bad("night{1;", 1, 5);
        good("night 1 ;", 1);
        bad("night1night 1;", 1, 6);
        bad("stock 0 1 99999;", 1, 10);
    }

    /** The end: the text's length, blanks and all. */
    private static void faultEnds() {
        bad("night", 1, 5);
        bad("night ", 1, 6);
        bad("night 1", 1, 7);
        bad("night 1  \n", 1, 10);
        bad("night 1;buy 0 1", 1, 15);
        bad("nigh", 1, 0);
        bad("night 21", 2, 6);
        good("night 1;  ", 1);
        good(" \n \n", 0);
    }

    private static String times(String line, int n) {
        StringBuilder text = new StringBuilder();
        for (int k = 0; k < n; k++) {
            text.append(line);
        }
        return text.toString();
    }

    private static void faultLines() {
        String lines = times("call 0;", 24);
        good(lines, 24);
        good(lines + "  ", 24);
        bad(lines + "call 0;", 3, 168);
        bad(lines + " \ncall", 3, 170);
        bad(lines + "call 999;", 3, 168);
        bad(lines + "calls 0;", 1, 168);
        bad(lines + ";", 1, 168);
        bad(lines + " 5", 1, 169);
        bad(times("call 0;", 23) + "call 200;call 0;", 2, 166);
        bad(times("call 0;", 30), 3, 168);
    }

    private static void faultFirst() {
        bad("call 200; calls;", 2, 5);
        bad("calls; call 200;", 1, 0);
        bad("buy 12 12 6 0 0;", 2, 4);
        bad("buy 11 12 6 0 0;", 2, 7);
        bad("rank 12 99999;", 2, 5);
    }

    private static void blanksAndTokens() {
        good("buy0 1 2 3 4;", 1);
        good("\n buy\n0\n1  2 3 4\n;\n\nnight 1;", 2);
        good("night1;night2;call0;", 3);
        RollingNets x = new RollingNets();
        due.is("plan", plan(x, "buy0 1 2 0003 44;"), 1);
        due.is("run", x.run(1), 1);
        int[] want = {0, 1, 2, 3, 44};
        for (int what = 0; what < 5; what++) {
            due.is("deal", x.deal(0, what), want[what]);
        }
    }

    private static void run() {
        RollingNets x = new RollingNets();
        due.is("run(0)", x.run(0), -1);
        due.is("run(25)", x.run(25), -1);
        due.is("run(-1)", x.run(-1), -1);
        due.is("run(MAX)", x.run(Integer.MAX_VALUE), -1);
        due.is("no plan", x.run(24), 0);
        due.is("plan", plan(x, times("rank 0 1;", 24)), 24);
        due.is("run(0)", x.run(0), -1);
        due.is("look(14)", x.look(14), 0);
        due.is("run(5)", x.run(5), 5);
        due.is("look(14)", x.look(14), 5);
        due.is("run(1)", x.run(1), 1);
        due.is("run(24): fewer", x.run(24), 18);
        due.is("look(14)", x.look(14), 24);
        due.is("at its end", x.run(24), 0);
        due.is("look(13)", x.look(13), 24);
    }

    /** What is refused is passed over, and not counted. */
    private static void runRefused() {
        RollingNets x = new RollingNets();
        due.is("plan", plan(x, "buy 0 0 0 1 1;apart 0 6 0 1 1;stock 6 0 1;reserve 11 0 1;lend 7 0 1;"
                + "rank 6 1;give 0 0 1;call 0;buy 0 1 0 1 1;price 0 50;"), 10);
        due.is("run(8)", x.run(8), 0);
        due.is("look(14)", x.look(14), 8);
        due.is("run(2)", x.run(2), 2);
        due.is("trades", x.look(7), 1);
        due.is("price", x.issue(0, 0), 50);

        RollingNets y = new RollingNets();
        due.is("plan", plan(y, "night 20;night 20;night 20;night 20;night 20;night 1;rank 0 1;"), 7);
        due.is("run: the sixth is refused", y.run(24), 6);
        due.is("day", y.look(6), 99);

        RollingNets z = new RollingNets();
        z.set(0, 12);
        due.is("plan", plan(z, "buy 11 10 0 1 1;rank 11 4;"), 2);
        due.is("run", z.run(2), 2);
    }

    private static void runWords() {
        RollingNets x = new RollingNets();
        x.set(1, 0);
        x.set(3, 1);
        due.is("plan", plan(x, "buy 0 1 2 30 90; apart 3 4 5 6 70; stock 1 2 10; reserve 1 2 4; lend 2 2 9;"
                + "rank 0 7; price 2 95; night 2; give 0 2 5; call 1; stock 5 5 0; lend 2 2 0; reserve 1 2 0;"), 13);
        due.is("run(1)", x.run(1), 1);
        int[] buy = {0, 1, 2, 30, 90, 0, 0, 30};
        for (int what = 0; what < 8; what++) {
            due.is("buy", x.deal(0, what), buy[what]);
        }
        due.is("run(1)", x.run(1), 1);
        int[] apart = {3, 4, 5, 6, 70, 1, 0, 6};
        for (int what = 0; what < 8; what++) {
            due.is("apart", x.deal(1, what), apart[what]);
        }
        due.is("run(1)", x.run(1), 1);
        due.is("stock", x.at(1, 2, 1), 10);
        due.is("run(1)", x.run(1), 1);
        due.is("reserve", x.at(1, 2, 3), 4);
        due.is("run(1)", x.run(1), 1);
        due.is("lend", x.at(2, 2, 4), 9);
        due.is("run(1)", x.run(1), 1);
        x.trade(5, 1, 2, 30, 90);
        due.is("run(1)", x.run(1), 1);
        due.is("price", x.issue(2, 0), 95);
        due.is("run(1)", x.run(1), 1);
        due.is("night", x.look(6), 2);
        due.is("rank: 0 goes first", x.queue(2, 0, 0), 0);
        due.is("run(1)", x.run(1), 1);
        due.is("give", x.notice(0, 2), 5);
        due.is("give", x.notice(0, 5), -1);
        due.is("run(1)", x.run(1), 1);
        due.is("call", x.notice(1, 5), 1);
        due.is("run(24)", x.run(24), 3);
        due.is("lend 0", x.at(2, 2, 4), 0);
        due.is("reserve 0", x.at(1, 2, 3), 0);

        // With two ranks told apart: the rank of the line counts, not its member's number.
        RollingNets y = new RollingNets();
        y.set(1, 0);
        y.trade(0, 5, 0, 1, 1);
        y.trade(1, 5, 0, 1, 1);
        y.night(1);
        due.is("0 goes first", y.queue(0, 0, 0), 0);
        due.is("plan", plan(y, "rank 1 9;stock 0 1 9999;stock 0 1 0;"), 3);
        due.is("run", y.run(2), 2);
        due.is("1 goes first", y.queue(0, 0, 0), 1);
        due.is("stock", y.at(0, 1, 1), 9999);
        due.is("run", y.run(1), 1);
        due.is("stock 0", y.at(0, 1, 1), 0);
    }

    private static void runNights() {
        RollingNets x = new RollingNets();
        due.is("plan", plan(x, "night 20;night 20;night 20;night 20;night 15;night 20;night 1;"), 7);
        due.is("run(5)", x.run(5), 5);
        due.is("day", x.look(6), 95);
        due.is("fewer, but the first can be", x.run(1), 1);
        due.is("day", x.look(6), 99);
        due.is("the first can't be", x.run(1), 0);
    }

    private static void faultWrong() {
        RollingNets x = new RollingNets();
        due.is("fault(0)", x.fault(0), 0);
        due.is("fault(1)", x.fault(1), -1);
        due.is("fault(2)", x.fault(2), -1);
        due.is("fault(-1)", x.fault(-1), -1);
        due.is("plan", plan(x, "call 200"), -1);
        due.is("fault(0)", x.fault(0), 2);
        due.is("fault(1)", x.fault(1), 5);
        due.is("fault(2)", x.fault(2), -1);
        due.is("fault(MAX)", x.fault(Integer.MAX_VALUE), -1);
        tape(x, "call 0;");
        due.is("of the latest plan()", x.fault(0), 2);
        due.is("plan", x.plan(), 1);
        due.is("fault(0)", x.fault(0), 0);
    }
}
