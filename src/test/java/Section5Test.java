/**
 * The bounds that 'Terms', section 5, names, sentence by sentence: the TAPE, the signs, words and numbers of a plan,
 * its FAULTS and their places, RUN, and THE IMAGE.
 */
public final class Section5Test {
    private static final Due due = new Due();
    private static final int BLANKS = 0x20202020;

    private static final String[] WORDS = {
        "buy", "apart", "stock", "reserve", "lend", "rank", "price", "give", "call", "night",
    };
    /** The least and the most of each NUMBER that stands behind a word. */
    private static final int[][] BOUNDS = {
        {0, 11, 0, 11, 0, 5, 1, 9999, 1, 9999}, {0, 11, 0, 11, 0, 5, 1, 9999, 1, 9999},
        {0, 11, 0, 5, 0, 9999}, {0, 11, 0, 5, 0, 9999}, {0, 11, 0, 5, 0, 9999},
        {0, 11, 0, 9}, {0, 5, 1, 9999}, {0, 11, 0, 5, 1, 9999}, {0, 199}, {1, 20},
    };

    public static void main(String[] args) {
        tapeOfFourHundred();
        firstBytes();
        planToTheLastByte();
        eachNumber();
        tooFewAndTooMany();
        wordsOrNone();
        digitsOrNone();
        everySign();
        faultAtTheEnd();
        firstByItsPlace();
        atOnePlaceTheLeast();
        twentyFourLines();
        planStays();
        runBounds();
        runIsAsIfCalled();
        runNights();
        imageNotTaken();
        imageOfAll();
        imageMoreThanOnce();
        due.end();
    }

    private static void good(String text, int lines) {
        RollingNets x = new RollingNets();
        due.is("the tape has it", Make.tape(x, text), true);
        due.is("plan: " + text, x.plan(), lines);
        due.is("fault(0): " + text, x.fault(0), 0);
        due.is("fault(1): " + text, x.fault(1), -1);
        due.is("look(13): " + text, x.look(13), lines);
    }

    private static void bad(String text, int fault, int place) {
        RollingNets x = new RollingNets();
        due.is("the tape has it", Make.tape(x, text), true);
        due.is("plan: " + text, x.plan(), -1);
        due.is("fault(0): " + text, x.fault(0), fault);
        due.is("fault(1): " + text, x.fault(1), place);
        due.is("look(13): " + text, x.look(13), 0);
    }

    // Promise 15: "NONE, and nothing comes, if there would be more than 400."

    private static void tapeOfFourHundred() {
        for (int length = 375; length <= 400; length++) {
            RollingNets x = new RollingNets();
            for (int k = 0; k < 20; k++) {
                due.is("feed", x.feed(BLANKS, BLANKS, BLANKS, BLANKS, BLANKS), 20 * k + 20);
            }
            due.is("end", x.end(length), true);
            due.is("feed at " + length, x.feed(0, 0, 0, 0, 0), length <= 380 ? length + 20 : -1);
            int has = length <= 380 ? length + 20 : length;
            due.is("it has no more", x.end(has + 1), false);
            due.is("it has so many", x.end(has), true);
            due.is("plan", x.plan(), length <= 380 ? -1 : 0);
            due.is("what came stands behind", x.fault(1), length <= 380 ? length : -1);
        }
    }

    // Promise 16: "The TAPE has its first n bytes alone: true; false, changing nothing, if it has not so many, or n is
    // below 0."

    private static void firstBytes() {
        RollingNets x = new RollingNets();
        due.is("end(0) of none", x.end(0), true);
        due.is("end(1) of none", x.end(1), false);
        Make.tape(x, "night 1;night 2;");
        for (int n : Make.beyond(0, 16)) {
            due.is("end(" + n + ")", x.end(n), false);
        }
        due.is("nothing changed", x.plan(), 2);
        for (int n = 0; n <= 16; n++) {
            Make.tape(x, "night 1;night 2;");
            due.is("end(" + n + ")", x.end(n), true);
            due.is("it has no more", x.end(n + 1), false);
            due.is("plan of " + n, x.plan(), n == 0 ? 0 : n == 8 ? 1 : n == 16 ? 2 : -1);
        }
    }

    private static void planToTheLastByte() {
        good(Make.times(" ", 392) + "night 1;", 1);
        bad(Make.times(" ", 393) + "night 1", 1, 400);
        bad(Make.times(" ", 395) + "night", 1, 400);
        bad(Make.times(" ", 399) + "#", 1, 399);
        good(Make.times(" ", 400), 0);
        good("", 0);
    }

    // "{buy B S I N P | .. | night K ;}: B, S, M 0 .. 11, I 0 .. 5, N 1 .. 9999 (stock, reserve, lend: 0 .. 9999 ..),
    // P 1 .. 9999, R 0 .. 9, T 0 .. 199 .., K 1 .. 20"; "2 (at the NUMBER) one beyond its bounds"

    /** A line with v as its k-th NUMBER, and 1 as each other; where the k-th stands is told in place[0]. */
    private static String line(int word, int k, int v, int[] place) {
        StringBuilder text = new StringBuilder(WORDS[word]);
        for (int n = 0; n < BOUNDS[word].length / 2; n++) {
            text.append(' ');
            if (n == k) {
                place[0] = text.length();
            }
            text.append(n == k ? v : 1);
        }
        return text.append(';').toString();
    }

    private static void eachNumber() {
        int[] place = new int[1];
        for (int word = 0; word < WORDS.length; word++) {
            for (int k = 0; k < BOUNDS[word].length / 2; k++) {
                int least = BOUNDS[word][2 * k];
                int most = BOUNDS[word][2 * k + 1];
                good(line(word, k, least, place), 1);
                good(line(word, k, most, place), 1);
                if (least == 1) {
                    bad(line(word, k, 0, place), 2, place[0]);
                }
                if (most < 9999) {
                    bad(line(word, k, most + 1, place), 2, place[0]);
                    bad(line(word, k, 9999, place), 2, place[0]);
                }
                // Five digits are no NUMBER.
                bad(line(word, k, 10000, place), 1, place[0]);
                bad(line(word, k, Integer.MAX_VALUE, place), 1, place[0]);
            }
        }
    }

    private static void tooFewAndTooMany() {
        for (int word = 0; word < WORDS.length; word++) {
            int numbers = BOUNDS[word].length / 2;
            for (int n = 0; n <= numbers + 1; n++) {
                String text = WORDS[word] + Make.times(" 1", n);
                if (n == numbers) {
                    good(text + ";", 1);
                    good(text + " ; ", 1);
                    bad(text, 1, text.length());
                } else if (n < numbers) {
                    bad(text + ";", 1, text.length());
                    bad(text, 1, text.length());
                } else {
                    bad(text + ";", 1, text.length() - 1);
                }
            }
        }
    }

    // "letters (a .. z, A .. Z) as many as stand together are those words or none"

    private static void wordsOrNone() {
        for (int word = 0; word < WORDS.length; word++) {
            String name = WORDS[word];
            String rest = Make.times(" 1", BOUNDS[word].length / 2) + ";";
            good(name + rest, 1);
            good(name + rest.substring(1), 1);
            bad(name.toUpperCase() + rest, 1, 0);
            bad(name.substring(0, 1).toUpperCase() + name.substring(1) + rest, 1, 0);
            bad(name + "a" + rest, 1, 0);
            bad(name + "Z" + rest, 1, 0);
            bad(name + name + rest, 1, 0);
            bad("a" + name + rest, 1, 0);
            bad(name.substring(1) + rest, 1, 0);
            bad(name.substring(0, name.length() - 1) + rest, 1, 0);
            bad(name.charAt(0) + " " + name.substring(1) + rest, 1, 0);
            bad(name + " " + name + rest, 1, name.length() + 1);
        }
    }

    // "digits as many as stand together NUMBERS of 1 to 4 digits or none"

    private static void digitsOrNone() {
        for (int digits = 0; digits <= 12; digits++) {
            String zeros = Make.times("0", digits);
            if (digits >= 1 && digits <= 4) {
                good("call " + zeros + ";", 1);
                good("night " + zeros.substring(1) + "1;", 1);
            } else {
                bad("call " + zeros + ";", 1, 5);
                bad("night " + zeros + "11111;", 1, 6);
            }
        }
    }

    // "; and blanks (32, 10)"; "1 what can't stand there"

    private static boolean isLetter(int sign) {
        return sign >= 'a' && sign <= 'z' || sign >= 'A' && sign <= 'Z';
    }

    private static void everySign() {
        for (int sign = 0; sign <= 255; sign++) {
            char c = (char) sign;
            boolean isBlank = sign == 32 || sign == 10;
            boolean isDigit = sign >= '0' && sign <= '9';
            if (isBlank) {
                good(c + "night 1;", 1);
                good("night" + c + "1;", 1);
                good("night 1" + c + ";", 1);
                good("night 1;" + c, 1);
                good(String.valueOf(c), 0);
                bad("ni" + c + "ght 1;", 1, 0);
                continue;
            }
            bad(c + "night 1;", 1, 0);
            bad("night 1;" + c, 1, 8);
            bad(String.valueOf(c), 1, 0);
            if (isDigit) {
                good("night 1" + c + ";", 1);
            } else {
                bad("night 1" + c + ";", 1, sign == ';' ? 8 : 7);
            }
            if (isDigit && sign <= '1') {
                good("night" + c + "1;", 1);
            } else if (isDigit) {
                bad("night" + c + "1;", 2, 5);
            } else {
                bad("night" + c + "1;", 1, isLetter(sign) ? 0 : 5);
            }
        }
    }

    // "(the end: the text's length)"

    private static void faultAtTheEnd() {
        String whole = "buy 1 2 3 44 5555 ;";
        int[] good = {0, whole.length()};
        for (int n = 0; n <= whole.length(); n++) {
            String text = whole.substring(0, n);
            if (n == good[0] || n == good[1]) {
                good(text, n == 0 ? 0 : 1);
            } else {
                // "b" and "bu" are no words; all others want more, behind their blanks, too.
                bad(text, 1, n < 3 ? 0 : n);
            }
        }
        bad("night 1;\n\n call 7 \n", 1, 19);
    }

    // "FAULTS, the first by its place"

    private static void firstByItsPlace() {
        bad("night 21 #", 2, 6);
        bad("night # 21", 1, 6);
        bad("night 0;night;", 2, 6);
        bad("night;night 0;", 1, 5);
        bad("buy 12 12 6 0 0;", 2, 4);
        bad("buy 11 12 6 0 0;", 2, 7);
        bad("buy 11 10 6 0 0;", 2, 10);
        bad("buy 11 10 5 0 0;", 2, 12);
        bad("buy 11 10 5 1 0;", 2, 14);
        bad("buy 11 10 5 1 1", 1, 15);
        bad("rank 12 10000;", 2, 5);
        bad("rank 10000 12;", 1, 5);
        String lines = Make.times("call 1;", 23);
        bad(lines + "call 200;call 1;", 2, 166);
        bad(lines + "call 199;call 1;", 3, 170);
        bad(lines + "call 199 call 1;", 1, 170);
    }

    // "at one place the least": there, and no word either: 1; a word: 3.

    private static void atOnePlaceTheLeast() {
        String lines = Make.times("call 1;", 24);
        bad(lines + "calls 1;", 1, 168);
        bad(lines + "1", 1, 168);
        bad(lines + ";", 1, 168);
        bad(lines + "#", 1, 168);
        bad(lines + "call", 3, 168);
        bad(lines + "call 200;", 3, 168);
        bad(lines + "call # ", 3, 168);
        // What can't stand there is not beyond its bounds: five digits.
        bad("call 99999;", 1, 5);
    }

    // "up to 24 lines"; "3 (at its first token) the 25th line"

    private static void twentyFourLines() {
        for (int n = 0; n <= 40; n++) {
            String text = Make.times("call 1;", n);
            if (n <= 24) {
                good(text, n);
                good(text + " \n ", n);
            } else {
                bad(text, 3, 168);
            }
        }
        bad(Make.times("call 1;", 24) + " \n call 1;", 3, 171);
    }

    // Promise 17: "The TAPE, empty then (with a FAULT too), is the plan, at its beginning ..: NONE: a FAULT (the plan
    // stays as it was)."

    private static void planStays() {
        RollingNets x = new RollingNets();
        Make.tape(x, "rank 0 1;rank 0 2;rank 0 3;");
        due.is("plan", x.plan(), 3);
        due.is("the tape is empty", x.end(1), false);
        due.is("run", x.run(2), 2);
        Make.tape(x, "rank 0 4;rank");
        due.is("plan", x.plan(), -1);
        due.is("the tape is empty", x.end(1), false);
        due.is("the plan stays", x.look(13), 3);
        due.is("where it was", x.look(14), 2);
        due.is("run", x.run(2), 1);
        due.is("look(14)", x.look(14), 3);
        Make.tape(x, "rank 0 5;");
        due.is("plan", x.plan(), 1);
        due.is("the fault is gone", x.fault(0), 0);
        due.is("the fault is gone", x.fault(1), -1);
        due.is("at its beginning", x.look(14), 0);
        due.is("an empty one", x.plan(), 0);
        due.is("look(13)", x.look(13), 0);
        due.is("run", x.run(24), 0);
    }

    // "RUN k (1 .. 24): the next k lines, one by one ..; the plan is at its end: fewer."

    private static void runBounds() {
        for (int lines = 0; lines <= 24; lines += 6) {
            for (int k = 1; k <= 24; k++) {
                RollingNets x = new RollingNets();
                Make.tape(x, Make.times("rank 1 2;", lines));
                due.is("plan", x.plan(), lines);
                int ran = Math.min(k, lines);
                due.is("run(" + k + ") of " + lines, x.run(k), ran);
                due.is("look(14)", x.look(14), ran);
                due.is("the others", x.run(24), lines - ran);
                due.is("look(14)", x.look(14), lines);
                due.is("at its end", x.run(1), 0);
            }
            RollingNets x = new RollingNets();
            Make.tape(x, Make.times("rank 1 2;", lines));
            x.plan();
            for (int k : Make.beyond(1, 24)) {
                due.is("run(" + k + ")", x.run(k), -1);
                due.is("look(14)", x.look(14), 0);
            }
        }
        RollingNets x = new RollingNets();
        due.is("no plan at all", x.run(24), 0);
    }

    // "as if called (what is refused is passed over ..)"; Promise 19: "how many of them were not refused"

    private static void runIsAsIfCalled() {
        String text = "buy 6 0 0 1 1;apart 0 11 0 1 1;stock 6 0 1;reserve 11 0 1;lend 6 5 0;rank 6 0;give 6 0 1;"
                + "call 0;buy 0 0 0 1 1;apart 5 5 0 1 1;";
        RollingNets x = new RollingNets();
        Make.tape(x, text);
        due.is("plan", x.plan(), 10);
        due.is("all are refused", x.run(24), 0);
        due.is("and passed over", x.look(14), 10);
        due.is("no trade", x.look(7), 0);
        RollingNets y = Make.quick();
        y.set(0, 12);
        Make.tape(y, "buy 6 0 0 1 1;apart 0 11 0 1 1;stock 6 0 1;reserve 11 0 1;lend 6 5 0;rank 6 0;give 6 0 1;"
                + "call 0;night 1;give 6 0 2;give 6 0 1;call 0;call 1;call 1;");
        due.is("plan", y.plan(), 14);
        due.is("run(8)", y.run(8), 6);
        due.is("look(14)", y.look(14), 8);
        due.is("run(1)", y.run(1), 1);
        due.is("run(5)", y.run(5), 2);
        due.is("look(14)", y.look(14), 14);
        due.is("notices", y.look(8), 2);
        due.is("stock", y.at(6, 0, 1), 1);
        due.is("reserved", y.at(11, 0, 3), 1);
    }

    // "night K (so many NIGHTS)"; "night: refused if the first can't be"

    private static void runNights() {
        for (int day = 78; day <= 99; day++) {
            RollingNets x = Make.onDay(day);
            Make.tape(x, "night 20;night 1;");
            x.plan();
            due.is("run on day " + day, x.run(1), day == 99 ? 0 : 1);
            due.is("day", x.look(6), Math.min(99, day + 20));
            due.is("run on day " + x.look(6), x.run(1), day >= 79 ? 0 : 1);
            due.is("day", x.look(6), Math.min(99, day + 21));
            due.is("look(14)", x.look(14), 2);
        }
    }

    // Promise 35: "false if there is none."

    private static void imageNotTaken() {
        RollingNets x = new RollingNets();
        x.price(0, 7);
        due.is("none", x.image(false), false);
        due.is("nothing changed", x.issue(0, 0), 7);
        due.is("taken", x.image(true), true);
        due.is("gone back to", x.image(false), true);
        due.is("as it was taken", x.issue(0, 0), 7);
        due.is("of another object", new RollingNets().image(false), false);
    }

    // "THE IMAGE: all that is and was told but the TAPE and fault(), as it was when it was taken"

    private static void imageOfAll() {
        RollingNets x = new RollingNets();
        Make.tape(x, "rank 0 1;night 1;");
        x.plan();
        x.run(1);
        x.image(true);
        x.run(1);
        Make.tape(x, "night 1;night 1;night 1;");
        x.plan();
        x.run(1);
        Make.tape(x, "night 21;");
        due.is("plan", x.plan(), -1);
        Make.tape(x, "night 1");
        due.is("gone back to", x.image(false), true);
        due.is("day", x.look(6), 0);
        due.is("the plan", x.look(13), 2);
        due.is("its place", x.look(14), 1);
        due.is("not the fault", x.fault(0), 2);
        due.is("not its place", x.fault(1), 6);
        due.is("not the tape", x.end(8), false);
        due.is("not the tape", x.end(7), true);
        due.is("run", x.run(24), 1);
        due.is("day", x.look(6), 1);
        due.is("the tape as it was", x.plan(), -1);
        due.is("the tape as it was", x.fault(1), 7);
    }

    // "gone back to it may be more than once"

    private static void imageMoreThanOnce() {
        RollingNets x = Make.quick();
        x.trade(0, 1, 0, 10, 100);
        x.night(1);
        x.image(true);
        for (int again = 0; again < 5; again++) {
            due.is("give", x.give(0, 0, 10), 0);
            x.tell(0, 0, 0, again);
            x.trade(0, 1, 0, 10, 100);
            x.night(1);
            due.is("bought in", x.at(0, 0, 1), again + 10);
            due.is("gone back to", x.image(false), true);
            due.is("day", x.look(6), 1);
            due.is("notices", x.look(8), 0);
            due.is("trades", x.look(7), 1);
            due.is("stock", x.at(0, 0, 1), 0);
            due.is("outside", x.look(11), 0);
        }
        x.night(1);
        x.image(true);
        x.night(5);
        x.image(false);
        due.is("the latest that was taken", x.look(6), 2);
    }
}
