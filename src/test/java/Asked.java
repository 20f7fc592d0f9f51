import java.util.ArrayList;
import java.util.List;
import java.util.function.Supplier;

/**
 * All that can be asked of an object, in parts: no object is asked more than its 512 calls let, so each part goes to
 * one of its own.
 */
final class Asked {
    /** So many questions has a part, and about as many calls. */
    static final int PART = 45;

    private interface Question {
        long ask(RollingNets x);
    }

    private static final List<List<String>> names = new ArrayList<>();
    private static final List<List<Question>> questions = new ArrayList<>();

    static {
        askAll();
    }

    private Asked() {
    }

    static int parts() {
        return questions.size();
    }

    static String name(int part, int k) {
        return names.get(part).get(k);
    }

    static long[] answers(RollingNets x, int part) {
        long[] got = new long[questions.get(part).size()];
        for (int k = 0; k < got.length; k++) {
            got[k] = questions.get(part).get(k).ask(x);
        }
        return got;
    }

    /** Objects made one way and the other answer the same to everything. */
    static void same(Due due, String told, Supplier<RollingNets> one, Supplier<RollingNets> other) {
        for (int part = 0; part < parts(); part++) {
            long[] want = answers(one.get(), part);
            long[] got = answers(other.get(), part);
            for (int k = 0; k < got.length; k++) {
                due.is(told + ": " + name(part, k), got[k], want[k]);
            }
        }
    }

    /** To how many questions they answer otherwise. */
    static int differences(Supplier<RollingNets> one, Supplier<RollingNets> other) {
        int count = 0;
        for (int part = 0; part < parts(); part++) {
            long[] want = answers(one.get(), part);
            long[] got = answers(other.get(), part);
            for (int k = 0; k < got.length; k++) {
                count += got[k] == want[k] ? 0 : 1;
            }
        }
        return count;
    }

    private static void ask(String name, Question what) {
        int last = questions.size() - 1;
        if (last < 0 || questions.get(last).size() == PART) {
            questions.add(new ArrayList<>());
            names.add(new ArrayList<>());
            last++;
        }
        questions.get(last).add(what);
        names.get(last).add(name);
    }

    /** One that changes what it is asked of: a part of its own. */
    private static void askAlone(String name, Question what) {
        questions.add(new ArrayList<>(List.of(what)));
        names.add(new ArrayList<>(List.of(name)));
    }

    private static void askAll() {
        for (int k = 0; k < 20; k++) {
            int what = k;
            ask("look(" + what + ")", x -> x.look(what));
        }
        for (int k = 0; k < 6; k++) {
            askMember(k);
        }
        for (int k = 0; k < 6; k++) {
            int issue = k;
            for (int w = 0; w < 9; w++) {
                int what = w;
                ask("issue(" + issue + ", " + what + ")", x -> x.issue(issue, what));
            }
            for (int i = -1; i < 3; i++) {
                int at = i;
                ask("queue(" + issue + ", " + at + ", 0)", x -> x.queue(issue, at, 0));
            }
            ask("aged(" + issue + ", 0)", x -> x.aged(issue, 0));
        }
        askRows();
        ask("fault(0)", x -> x.fault(0));
        ask("fault(1)", x -> x.fault(1));
        ask("stress(9)", x -> x.stress(9));
        ask("stress(-9)", x -> x.stress(-9));
        askAlone("how long the tape is", Asked::tapeLength);
        askAlone("what the tape has", x -> sum(x.plan(), x.fault(0), x.fault(1), x.run(24), x.issue(0, 0), x.look(7)));
        askAlone("what runs next", x -> sum(x.run(1), x.look(14), x.issue(0, 0), x.look(6), x.at(0, 0, 1)));
        askAlone("what is behind a night", Asked::behindANight);
        askAlone("what was taken", x -> x.image(false) ? behindANight(x) : 0);
    }

    private static long sum(long... some) {
        long sum = 0;
        for (long one : some) {
            sum = sum * 31 + one;
        }
        return sum;
    }

    private static void askMember(int member) {
        ask("cash(" + member + ")", x -> x.cash(member));
        ask("margin(" + member + ", 0)", x -> x.margin(member, 0));
        ask("margin(" + member + ", 1)", x -> x.margin(member, 1));
        for (int i = 0; i < 6; i++) {
            int issue = i;
            for (int w = 0; w < 10; w++) {
                int what = w;
                ask("at(" + member + ", " + issue + ", " + what + ")", x -> x.at(member, issue, what));
            }
            ask("lot(" + member + ", " + issue + ", 0, 1)", x -> x.lot(member, issue, 0, 1));
            ask("lot(" + member + ", " + issue + ", 1, 1)", x -> x.lot(member, issue, 1, 1));
        }
        for (int issue = 0; issue < 2; issue++) {
            int of = issue;
            ask("tomorrow(" + member + ", " + of + ", 1)", x -> x.tomorrow(member, of, 1));
            ask("tomorrow(" + member + ", " + of + ", 9)", x -> x.tomorrow(member, of, 9));
            ask("ahead(" + member + ", " + of + ")", x -> x.ahead(member, of));
        }
    }

    private static void askRows() {
        for (int t : new int[] {0, 1, 2, 3, 4, 5, 6, 7, 8, 199, 200}) {
            for (int w : new int[] {0, 3, 6, 7}) {
                ask("deal(" + t + ", " + w + ")", x -> x.deal(t, w));
            }
            ask("reached(" + t + ", 1)", x -> x.reached(t, 1));
        }
        for (int i : new int[] {0, 1, 2, 59, 60}) {
            for (int w : new int[] {0, 2, 4, 5, 6, 10, 11, 12, 15}) {
                ask("notice(" + i + ", " + w + ")", x -> x.notice(i, w));
            }
        }
        for (int i : new int[] {0, 1, 2, 3, 299, 300}) {
            for (int w = 0; w < 6; w++) {
                int what = w;
                ask("book(" + i + ", " + what + ")", x -> x.book(i, what));
            }
        }
    }

    private static long tapeLength(RollingNets x) {
        int length = x.feed(0, 0, 0, 0, 0);
        if (length != -1) {
            return length - 20;
        }
        for (int n = 400; n > 380; n--) {
            if (x.end(n)) {
                return n;
            }
        }
        return 0;
    }

    /** What a night does tells what else was told: dividends, prices, ranks, settings. */
    private static long behindANight(RollingNets x) {
        long all = sum(x.night(1), x.trade(2, 3, 0, 1, 150), x.deal(x.look(7) - 1, 6), x.look(11), x.look(10));
        for (int member = 0; member < 6; member++) {
            all = sum(all, x.cash(member), x.at(member, 0, 0), x.at(member, 1, 1));
        }
        return all;
    }
}
