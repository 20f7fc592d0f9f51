import java.util.ArrayList;
import java.util.Arrays;
import java.util.Comparator;
import java.util.List;
import java.util.regex.Matcher;
import java.util.regex.Pattern;

/**
 * A second telling of the document, as slow and as plain as its words: lists of lots that are
 * walked from the first on, queues that are sorted anew for each share-out, plans by a pattern.
 * FuzzTest sets it beside RollingNets.
 */
final class Model {
    static final int NONE = -1;
    static final int NOTHING = -1000000;

    static final class Lot {
        int day;
        int n; // LONG above 0, SHORT below 0

        Lot(int day, int n) {
            this.day = day;
            this.n = n;
        }
    }

    static final class Trade {
        int buyer, seller, issue, shares, price, due, open;
        boolean apart;

        Trade copy() {
            Trade t = new Trade();
            t.buyer = buyer;
            t.seller = seller;
            t.issue = issue;
            t.shares = shares;
            t.price = price;
            t.due = due;
            t.open = open;
            t.apart = apart;
            return t;
        }
    }

    static final class Notice {
        int member, issue, shares, due, trade, bought;
        boolean open;
        int[] assigned = new int[12];

        Notice copy() {
            Notice n = new Notice();
            n.member = member;
            n.issue = issue;
            n.shares = shares;
            n.due = due;
            n.trade = trade;
            n.bought = bought;
            n.open = open;
            n.assigned = assigned.clone();
            return n;
        }
    }

    static final class State {
        int[] set = {6, 2, 2, 3, 1, 10, 0};
        int day;
        long outside;
        long[] cash = new long[12];
        int[] rank = new int[12];
        int[] collateral = new int[12];
        boolean[] suspended = new boolean[12];
        long[][] stock = new long[12][6]; // what is MOVED to a MEMBER has no bound
        int[][] reserved = new int[12][6];
        int[][] lends = new int[12][6];
        int[][] lent = new int[12][6];
        int[][] fails = new int[12][6];
        int[] price = {100, 100, 100, 100, 100, 100};
        int[] marked = {100, 100, 100, 100, 100, 100};
        int[] dividend = new int[6];
        List<List<List<Lot>>> lots = new ArrayList<>();
        List<Trade> trades = new ArrayList<>();
        List<Notice> notices = new ArrayList<>();
        List<int[]> book = new ArrayList<>();
        List<String[]> plan = new ArrayList<>();
        int ran;

        State() {
            for (int m = 0; m < 12; m++) {
                List<List<Lot>> row = new ArrayList<>();
                for (int i = 0; i < 6; i++) {
                    row.add(new ArrayList<>());
                }
                lots.add(row);
            }
        }

        State copy() {
            State c = new State();
            c.set = set.clone();
            c.day = day;
            c.outside = outside;
            c.cash = cash.clone();
            c.rank = rank.clone();
            c.collateral = collateral.clone();
            c.suspended = suspended.clone();
            for (int m = 0; m < 12; m++) {
                c.stock[m] = stock[m].clone();
            }
            c.reserved = deep(reserved);
            c.lends = deep(lends);
            c.lent = deep(lent);
            c.fails = deep(fails);
            c.price = price.clone();
            c.marked = marked.clone();
            c.dividend = dividend.clone();
            for (int m = 0; m < 12; m++) {
                for (int i = 0; i < 6; i++) {
                    for (Lot l : lots.get(m).get(i)) {
                        c.lots.get(m).get(i).add(new Lot(l.day, l.n));
                    }
                }
            }
            for (Trade t : trades) {
                c.trades.add(t.copy());
            }
            for (Notice n : notices) {
                c.notices.add(n.copy());
            }
            c.book.addAll(book);
            c.plan.addAll(plan);
            c.ran = ran;
            return c;
        }

        private static int[][] deep(int[][] a) {
            int[][] c = new int[a.length][];
            for (int k = 0; k < a.length; k++) {
                c[k] = a[k].clone();
            }
            return c;
        }
    }

    State s = new State();
    State image;
    StringBuilder tape = new StringBuilder();
    int fault = 0;
    int faultPlace = NONE;

    // ---- small words of the document ----

    int m() {
        return s.set[0];
    }

    boolean member(int k) {
        return 0 <= k && k < m();
    }

    static boolean anIssue(int i) {
        return 0 <= i && i <= 5;
    }

    int longOf(int k, int i) {
        int sum = 0;
        for (Lot l : s.lots.get(k).get(i)) {
            if (l.n > 0) {
                sum += l.n;
            }
        }
        return sum;
    }

    int shortOf(int k, int i) {
        int sum = 0;
        for (Lot l : s.lots.get(k).get(i)) {
            if (l.n < 0) {
                sum -= l.n;
            }
        }
        return sum;
    }

    int position(int k, int i) {
        return longOf(k, i) - shortOf(k, i);
    }

    long free(int k, int i) {
        if (s.suspended[k]) {
            return 0;
        }
        return Math.max(0, s.stock[k][i] - s.reserved[k][i]);
    }

    int canLend(int k, int i) {
        if (shortOf(k, i) > 0) {
            return 0;
        }
        return (int) Math.max(0, Math.min(free(k, i), s.lends[k][i] - s.lent[k][i]));
    }

    /** Takes n off the first lots, whichever sort they are. */
    void off(int k, int i, int n) {
        List<Lot> row = s.lots.get(k).get(i);
        while (n > 0 && !row.isEmpty()) {
            Lot first = row.get(0);
            int part = Math.min(n, Math.abs(first.n));
            first.n += first.n > 0 ? -part : part;
            n -= part;
            if (first.n == 0) {
                row.remove(0);
            }
        }
    }

    void add(int k, int i, int n, boolean toGet, int d) {
        int other = toGet ? shortOf(k, i) : longOf(k, i);
        int netted = Math.min(n, other);
        off(k, i, netted);
        int left = n - netted;
        if (left == 0) {
            return;
        }
        List<Lot> row = s.lots.get(k).get(i);
        int signed = toGet ? left : -left;
        if (!row.isEmpty() && row.get(row.size() - 1).day == d) {
            row.get(row.size() - 1).n += signed;
        } else {
            row.add(new Lot(d, signed));
        }
    }

    boolean noticed(int k, int i) {
        for (Notice n : s.notices) {
            if (n.open && n.trade == NONE && n.member == k && n.issue == i) {
                return true;
            }
        }
        return false;
    }

    static final class Place {
        int member;
        Lot lot;
    }

    List<Place> queueOf(int i) {
        List<Place> all = new ArrayList<>();
        for (int k = 0; k < m(); k++) {
            for (Lot l : s.lots.get(k).get(i)) {
                if (l.n > 0) {
                    Place p = new Place();
                    p.member = k;
                    p.lot = l;
                    all.add(p);
                }
            }
        }
        Comparator<Place> order = Comparator.comparingInt(p -> s.suspended[p.member] ? 1 : 0);
        order = order.thenComparingInt(p -> noticed(p.member, i) ? 0 : 1);
        order = order.thenComparingInt(p -> p.lot.day);
        order = order.thenComparingInt(p -> -s.rank[p.member]);
        order = order.thenComparingInt(p -> p.member);
        all.sort(order);
        return all;
    }

    void line(int what, int issue, int from, int to, int shares) {
        if (s.book.size() < 300) {
            s.book.add(new int[] {s.day, what, issue, from, to, shares});
        }
    }

    void clean(int k, int i) {
        s.lots.get(k).get(i).removeIf(l -> l.n == 0);
    }

    // ---- a night ----

    void nightOf(int i) {
        int d = s.day;
        for (Trade t : s.trades) {
            if (t.issue == i && !t.apart && t.due <= d && t.open > 0) {
                long amount = (long) t.shares * (t.price - s.marked[i]);
                s.cash[t.buyer] -= amount;
                s.cash[t.seller] += amount;
                add(t.buyer, i, t.shares, true, d);
                add(t.seller, i, t.shares, false, d);
                t.open = 0;
            }
        }
        int pool = 0;
        List<Integer> givers = new ArrayList<>();
        for (int k = 0; k < m(); k++) {
            if (shortOf(k, i) > 0) {
                givers.add(k);
            }
        }
        givers.sort(Comparator.<Integer>comparingInt(k -> s.lots.get(k).get(i).get(0).day).thenComparingInt(k -> k));
        for (int k : givers) {
            int n = (int) Math.min(shortOf(k, i), free(k, i));
            if (n > 0) {
                s.stock[k][i] -= n;
                s.cash[k] += (long) n * s.marked[i];
                off(k, i, n);
                pool += n;
                line(0, i, k, NONE, n);
                int rest = n;
                for (Notice x : s.notices) {
                    if (x.open && x.issue == i) {
                        int part = Math.min(rest, x.assigned[k]);
                        x.assigned[k] -= part;
                        rest -= part;
                    }
                }
            }
        }
        while (pool > 0) {
            Place p = queueOf(i).get(0);
            int n = Math.min(pool, p.lot.n);
            s.stock[p.member][i] += n;
            s.cash[p.member] -= (long) n * s.marked[i];
            s.lent[p.member][i] = Math.max(0, s.lent[p.member][i] - n);
            p.lot.n -= n;
            clean(p.member, i);
            line(1, i, NONE, p.member, n);
            pool -= n;
        }
        List<Place> waiting = new ArrayList<>();
        for (Place p : queueOf(i)) {
            if (p.lot.day <= d - s.set[2]) {
                waiting.add(p);
            }
        }
        for (Place p : waiting) {
            while (p.lot.n > 0) {
                int best = NONE;
                for (int k = 0; k < m(); k++) {
                    if (k != p.member && canLend(k, i) > (best == NONE ? 0 : canLend(best, i))) {
                        best = k;
                    }
                }
                if (best == NONE) {
                    break;
                }
                int n = Math.min(p.lot.n, canLend(best, i));
                s.stock[best][i] -= n;
                s.cash[best] += (long) n * s.marked[i];
                s.lent[best][i] += n;
                add(best, i, n, true, d);
                s.stock[p.member][i] += n;
                s.cash[p.member] -= (long) n * s.marked[i];
                p.lot.n -= n;
                clean(p.member, i);
                line(2, i, best, p.member, n);
            }
        }
        for (Trade t : s.trades) {
            if (t.issue == i && t.apart && t.due <= d && t.open > 0 && free(t.seller, i) >= t.open) {
                s.stock[t.seller][i] -= t.open;
                s.stock[t.buyer][i] += t.open;
                s.cash[t.buyer] -= (long) t.open * t.price;
                s.cash[t.seller] += (long) t.open * t.price;
                line(3, i, t.seller, t.buyer, t.open);
                t.open = 0;
            }
        }
        for (Notice x : s.notices) {
            if (x.open && x.issue == i && x.due <= d) {
                if (x.trade == NONE) {
                    closeNet(x);
                } else {
                    closeApart(x);
                }
                x.open = false;
            }
        }
        for (int k = 0; k < m(); k++) {
            s.cash[k] += (long) position(k, i) * (s.price[i] - s.marked[i]);
        }
        s.marked[i] = s.price[i];
        for (int k = 0; k < m(); k++) {
            s.cash[k] += (long) s.dividend[i] * (s.stock[k][i] + position(k, i));
            s.outside -= (long) s.dividend[i] * s.stock[k][i];
        }
        s.dividend[i] = 0;
        for (int k = 0; k < m(); k++) {
            if (shortOf(k, i) > 0) {
                s.fails[k][i]++;
                long fee = (long) shortOf(k, i) * s.marked[i] * s.set[6] / 10000;
                s.cash[k] -= fee;
                s.outside += fee;
            }
        }
    }

    void oneNight() {
        for (int i = 0; i < 6; i++) {
            nightOf(i);
        }
        s.day++;
    }

    long buyPrice(int i) {
        return s.price[i] + (s.price[i] * s.set[5]) / 100;
    }

    void closeNet(Notice x) {
        int i = x.issue;
        for (int k = 0; k < m(); k++) {
            if (x.assigned[k] > 0) {
                int n = Math.min(x.assigned[k], Math.min(shortOf(k, i), longOf(x.member, i)));
                if (n > 0) {
                    s.stock[x.member][i] += n;
                    off(x.member, i, n);
                    s.cash[x.member] -= (long) n * s.marked[i];
                    off(k, i, n);
                    s.cash[k] += (long) n * s.marked[i];
                    s.cash[k] -= n * buyPrice(i);
                    s.outside += n * buyPrice(i);
                    x.bought += n;
                    line(4, i, k, x.member, n);
                }
            }
        }
    }

    List<Trade> chain(Trade t, int shares) {
        List<Trade> links = new ArrayList<>();
        List<Integer> in = new ArrayList<>(Arrays.asList(t.buyer, t.seller));
        links.add(t);
        int at = t.seller;
        while (true) {
            Trade next = null;
            for (Trade o : s.trades) {
                boolean fits = o.apart && o.issue == t.issue && o.buyer == at && o.open >= shares && o.open > 0;
                if (fits && o.due <= s.day && !in.contains(o.seller) && (next == null || o.due < next.due)) {
                    next = o;
                }
            }
            if (next == null) {
                return links;
            }
            links.add(next);
            at = next.seller;
            in.add(at);
        }
    }

    void closeApart(Notice x) {
        Trade t = s.trades.get(x.trade);
        if (t.open < x.shares) {
            return;
        }
        List<Trade> links = chain(t, x.shares);
        int last = links.get(links.size() - 1).seller;
        s.cash[last] -= x.shares * buyPrice(x.issue);
        s.outside += x.shares * buyPrice(x.issue);
        s.stock[t.buyer][x.issue] += x.shares;
        for (Trade link : links) {
            s.cash[link.buyer] -= (long) x.shares * link.price;
            s.cash[link.seller] += (long) x.shares * link.price;
            link.open -= x.shares;
        }
        x.bought = x.shares;
        line(4, x.issue, last, t.buyer, x.shares);
    }

    // ---- the promises ----

    boolean set(int what, int v) {
        int[] least = {2, 0, 1, 1, 0, 0, 0};
        int[] most = {12, 3, 9, 9, 5, 100, 100};
        if (what < 0 || what > 6 || v < least[what] || v > most[what] || (what == 0 && !s.trades.isEmpty())) {
            return false;
        }
        s.set[what] = v;
        return true;
    }

    boolean tell(int k, int i, int what, int v) {
        if (!member(k) || what < 0 || what > 3 || v < 0) {
            return false;
        }
        if (what == 3) {
            if (v > 9) {
                return false;
            }
            s.rank[k] = v;
            return true;
        }
        if (!anIssue(i) || v > 99999) {
            return false;
        }
        if (what == 0) {
            s.stock[k][i] = v;
        } else {
            (what == 1 ? s.reserved : s.lends)[k][i] = v;
        }
        return true;
    }

    boolean price(int i, int p) {
        if (!anIssue(i) || p < 1 || p > 9999) {
            return false;
        }
        s.price[i] = p;
        return true;
    }

    int newTrade(int b, int sl, int i, int n, int p, boolean apart) {
        if (!member(b) || !member(sl) || b == sl || !anIssue(i) || n < 1 || n > 9999 || p < 1 || p > 9999) {
            return NONE;
        }
        if (s.trades.size() >= 200) {
            return NONE;
        }
        Trade t = new Trade();
        t.buyer = b;
        t.seller = sl;
        t.issue = i;
        t.shares = n;
        t.price = p;
        t.apart = apart;
        t.due = s.day + s.set[1];
        t.open = n;
        s.trades.add(t);
        return s.trades.size() - 1;
    }

    int trade(int b, int sl, int i, int n, int p) {
        return newTrade(b, sl, i, n, p, false);
    }

    int apart(int b, int sl, int i, int n, int p) {
        return newTrade(b, sl, i, n, p, true);
    }

    boolean dividend(int i, int v) {
        if (!anIssue(i) || v < 0 || v > 99) {
            return false;
        }
        s.dividend[i] = v;
        return true;
    }

    boolean move(int from, int to, int i, int n) {
        if (!member(from) || !member(to) || from == to || !anIssue(i) || n < 1 || n > free(from, i)) {
            return false;
        }
        s.stock[from][i] -= n;
        s.stock[to][i] += n;
        return true;
    }

    boolean split(int i, int n) {
        if (!anIssue(i) || n < 2 || n > 5 || s.price[i] % n != 0 || s.marked[i] % n != 0) {
            return false;
        }
        for (Trade t : s.trades) {
            if (t.issue == i && t.open > 0) {
                return false;
            }
        }
        for (Notice x : s.notices) {
            if (x.issue == i && x.open) {
                return false;
            }
        }
        for (int k = 0; k < m(); k++) {
            long[] numbers = {s.stock[k][i], s.reserved[k][i], s.lends[k][i], s.lent[k][i], Math.abs(position(k, i))};
            for (long v : numbers) {
                if (v * n > 99999999L) {
                    return false;
                }
            }
        }
        for (int k = 0; k < m(); k++) {
            s.stock[k][i] *= n;
            s.reserved[k][i] *= n;
            s.lends[k][i] *= n;
            s.lent[k][i] *= n;
            for (Lot l : s.lots.get(k).get(i)) {
                l.n *= n;
            }
        }
        s.price[i] /= n;
        s.marked[i] /= n;
        return true;
    }

    boolean suspend(int k, boolean is) {
        if (!member(k)) {
            return false;
        }
        s.suspended[k] = is;
        return true;
    }

    boolean collateral(int k, int v) {
        if (!member(k) || v < 0 || v > 9999999) {
            return false;
        }
        s.collateral[k] = v;
        return true;
    }

    int night(int n) {
        if (n < 1 || n > 20 || s.day == 99) {
            return NONE;
        }
        int there = 0;
        while (there < n && s.day < 99) {
            oneNight();
            there++;
        }
        return there;
    }

    int give(int k, int i, int shares) {
        if (!member(k) || !anIssue(i) || s.notices.size() >= 60 || noticed(k, i)) {
            return NONE;
        }
        int old = 0;
        for (Lot l : s.lots.get(k).get(i)) {
            if (l.n > 0 && l.day <= s.day - s.set[3]) {
                old += l.n;
            }
        }
        if (shares < 1 || shares > old) {
            return NONE;
        }
        int[] room = new int[12];
        List<int[]> shorts = new ArrayList<>();
        for (int o = 0; o < m(); o++) {
            room[o] = shortOf(o, i);
            for (Notice x : s.notices) {
                if (x.open && x.issue == i) {
                    room[o] -= x.assigned[o];
                }
            }
            for (Lot l : s.lots.get(o).get(i)) {
                if (l.n < 0 && o != k) {
                    shorts.add(new int[] {l.day, o, -l.n});
                }
            }
        }
        shorts.sort(Comparator.<int[]>comparingInt(a -> a[0]).thenComparingInt(a -> a[1]));
        Notice x = new Notice();
        for (int[] lot : shorts) {
            int part = Math.max(0, Math.min(Math.min(lot[2], room[lot[1]]), shares - x.shares));
            x.assigned[lot[1]] += part;
            room[lot[1]] -= part;
            x.shares += part;
        }
        if (x.shares == 0) {
            return NONE;
        }
        x.member = k;
        x.issue = i;
        x.due = s.day + s.set[4];
        x.trade = NONE;
        x.open = true;
        s.notices.add(x);
        return s.notices.size() - 1;
    }

    int call(int trade) {
        if (trade < 0 || trade >= s.trades.size() || s.notices.size() >= 60) {
            return NONE;
        }
        Trade t = s.trades.get(trade);
        if (!t.apart || t.open == 0 || s.day - t.due < s.set[3]) {
            return NONE;
        }
        for (Notice x : s.notices) {
            if (x.open && x.trade == trade) {
                return NONE;
            }
        }
        Notice x = new Notice();
        x.member = t.buyer;
        x.issue = t.issue;
        x.shares = t.open;
        x.due = s.day + s.set[4];
        x.trade = trade;
        x.open = true;
        s.notices.add(x);
        return s.notices.size() - 1;
    }

    int feed(int... numbers) {
        if (tape.length() > 380) {
            return NONE;
        }
        for (int v : numbers) {
            tape.append((char) (v >>> 24)).append((char) (v >>> 16 & 255));
            tape.append((char) (v >>> 8 & 255)).append((char) (v & 255));
        }
        return tape.length();
    }

    boolean end(int n) {
        if (n < 0 || n > tape.length()) {
            return false;
        }
        tape.setLength(n);
        return true;
    }

    private static final Pattern TOKEN = Pattern.compile("[ \n]*([a-zA-Z]+|[0-9]+|[^a-zA-Z0-9 \n])?");
    private static final String[][] SHAPES = {
        {"buy", "0-11", "0-11", "0-5", "1-9999", "1-9999"},
        {"apart", "0-11", "0-11", "0-5", "1-9999", "1-9999"},
        {"stock", "0-11", "0-5", "0-9999"},
        {"reserve", "0-11", "0-5", "0-9999"},
        {"lend", "0-11", "0-5", "0-9999"},
        {"rank", "0-11", "0-9"},
        {"price", "0-5", "1-9999"},
        {"give", "0-11", "0-5", "1-9999"},
        {"call", "0-199"},
        {"night", "1-20"},
    };

    int plan() {
        List<String> tokens = new ArrayList<>();
        List<Integer> places = new ArrayList<>();
        String text = tape.toString();
        tape.setLength(0);
        fault = 0;
        faultPlace = NONE;
        Matcher in = TOKEN.matcher(text);
        int from = 0;
        while (from < text.length() && in.find(from) && in.group(1) != null) {
            tokens.add(in.group(1));
            places.add(in.start(1));
            from = in.end();
        }
        List<String[]> read = new ArrayList<>();
        int at = 0;
        while (at < tokens.size()) {
            String[] shape = null;
            for (String[] one : SHAPES) {
                if (one[0].equals(tokens.get(at))) {
                    shape = one;
                }
            }
            if (shape == null) {
                return fail(1, places.get(at));
            }
            if (read.size() == 24) {
                return fail(3, places.get(at));
            }
            String[] made = new String[shape.length];
            made[0] = shape[0];
            at++;
            for (int k = 1; k < shape.length; k++, at++) {
                if (at == tokens.size()) {
                    return fail(1, text.length());
                }
                if (!tokens.get(at).matches("[0-9]{1,4}")) {
                    return fail(1, places.get(at));
                }
                int v = Integer.parseInt(tokens.get(at));
                String[] bounds = shape[k].split("-");
                if (v < Integer.parseInt(bounds[0]) || v > Integer.parseInt(bounds[1])) {
                    return fail(2, places.get(at));
                }
                made[k] = tokens.get(at);
            }
            if (at == tokens.size()) {
                return fail(1, text.length());
            }
            if (!tokens.get(at).equals(";")) {
                return fail(1, places.get(at));
            }
            at++;
            read.add(made);
        }
        s.plan = read;
        s.ran = 0;
        return read.size();
    }

    private int fail(int kind, int place) {
        fault = kind;
        faultPlace = place;
        return NONE;
    }

    int fault(int what) {
        return what == 0 ? fault : what == 1 ? faultPlace : NONE;
    }

    int run(int k) {
        if (k < 1 || k > 24) {
            return NONE;
        }
        int good = 0;
        for (int j = 0; j < k && s.ran < s.plan.size(); j++) {
            String[] l = s.plan.get(s.ran);
            s.ran++;
            int[] v = new int[6];
            for (int a = 1; a < l.length; a++) {
                v[a] = Integer.parseInt(l[a]);
            }
            boolean done;
            if (l[0].equals("buy")) {
                done = trade(v[1], v[2], v[3], v[4], v[5]) != NONE;
            } else if (l[0].equals("apart")) {
                done = apart(v[1], v[2], v[3], v[4], v[5]) != NONE;
            } else if (l[0].equals("stock")) {
                done = tell(v[1], v[2], 0, v[3]);
            } else if (l[0].equals("reserve")) {
                done = tell(v[1], v[2], 1, v[3]);
            } else if (l[0].equals("lend")) {
                done = tell(v[1], v[2], 2, v[3]);
            } else if (l[0].equals("rank")) {
                done = tell(v[1], 0, 3, v[2]);
            } else if (l[0].equals("price")) {
                done = price(v[1], v[2]);
            } else if (l[0].equals("give")) {
                done = give(v[1], v[2], v[3]) != NONE;
            } else if (l[0].equals("call")) {
                done = call(v[1]) != NONE;
            } else {
                done = night(v[1]) != NONE;
            }
            good += done ? 1 : 0;
        }
        return good;
    }

    int at(int k, int i, int what) {
        if (!member(k) || !anIssue(i)) {
            return NOTHING;
        }
        List<Lot> row = s.lots.get(k).get(i);
        switch (what) {
            case 0: return position(k, i);
            case 1: return (int) s.stock[k][i];
            case 2: return (int) free(k, i);
            case 3: return s.reserved[k][i];
            case 4: return s.lends[k][i];
            case 5: return s.lent[k][i];
            case 6: return row.size();
            case 7: return row.isEmpty() ? NONE : row.get(0).day;
            case 8: return canLend(k, i);
            case 9: return s.fails[k][i];
            default: return NOTHING;
        }
    }

    int lot(int k, int i, int j, int what) {
        if (!member(k) || !anIssue(i) || j < 0 || j >= s.lots.get(k).get(i).size() || what < 0 || what > 1) {
            return NONE;
        }
        Lot l = s.lots.get(k).get(i).get(j);
        return what == 0 ? l.day : l.n;
    }

    long cash(int k) {
        return member(k) ? s.cash[k] : 0;
    }

    int deal(int trade, int what) {
        if (trade < 0 || trade >= s.trades.size() || what < 0 || what > 7) {
            return NONE;
        }
        Trade t = s.trades.get(trade);
        return new int[] {t.buyer, t.seller, t.issue, t.shares, t.price, t.apart ? 1 : 0, t.due, t.open}[what];
    }

    int notice(int j, int what) {
        if (j < 0 || j >= s.notices.size()) {
            return NONE;
        }
        Notice x = s.notices.get(j);
        if (what >= 10 && what < 10 + m()) {
            return x.assigned[what - 10];
        }
        if (what < 0 || what > 6) {
            return NONE;
        }
        return new int[] {x.member, x.issue, x.shares, x.due, x.open ? 1 : 0, x.trade, x.bought}[what];
    }

    int issue(int i, int what) {
        if (!anIssue(i) || what < 0 || what > 8) {
            return NONE;
        }
        int[] sums = {s.price[i], s.marked[i], 0, 0, 0, NONE, 0, 0, 0};
        for (int k = 0; k < m(); k++) {
            sums[2] += longOf(k, i);
            sums[3] += shortOf(k, i);
            sums[4] += s.stock[k][i];
            for (Lot l : s.lots.get(k).get(i)) {
                sums[5] = sums[5] == NONE ? l.day : Math.min(sums[5], l.day);
            }
        }
        for (Trade t : s.trades) {
            if (t.issue == i) {
                sums[6] += t.apart ? t.open : 0;
                sums[7]++;
                sums[8] += t.shares;
            }
        }
        return sums[what];
    }

    int book(int j, int what) {
        return j < 0 || j >= s.book.size() || what < 0 || what > 5 ? NONE : s.book.get(j)[what];
    }

    long demand(int k) {
        long sum = 0;
        for (int i = 0; i < 6; i++) {
            for (Lot l : s.lots.get(k).get(i)) {
                int percent = 10;
                for (int age = l.day; age < s.day && l.n < 0; age++) {
                    percent += 5;
                }
                sum += (long) Math.abs(l.n) * s.marked[i] * Math.min(100, percent) / 100;
            }
        }
        return sum;
    }

    long margin(int k, int what) {
        if (!member(k) || what < 0 || what > 2) {
            return NONE;
        }
        long lacks = Math.max(0, demand(k) - s.collateral[k]);
        return what == 0 ? demand(k) : what == 1 ? s.collateral[k] : lacks;
    }

    int stress(int x) {
        if (x < -99 || x > 99) {
            return NONE;
        }
        int set = 0;
        for (int k = 0; k < m(); k++) {
            long sum = s.cash[k] + s.collateral[k];
            for (int i = 0; i < 6; i++) {
                sum += (long) position(k, i) * s.marked[i] * x / 100;
            }
            set |= sum < 0 ? 1 << k : 0;
        }
        return set;
    }

    int queue(int i, int j, int what) {
        if (!anIssue(i)) {
            return NONE;
        }
        List<Place> q = queueOf(i);
        if (j == NONE) {
            return q.size();
        }
        if (j < 0 || j >= q.size() || what < 0 || what > 2) {
            return NONE;
        }
        Place p = q.get(j);
        return what == 0 ? p.member : what == 1 ? p.lot.day : p.lot.n;
    }

    int aged(int i, int days) {
        if (!anIssue(i) || days < 0 || days > 99) {
            return NONE;
        }
        int sum = 0;
        for (int k = 0; k < m(); k++) {
            for (Lot l : s.lots.get(k).get(i)) {
                sum += l.n < 0 && s.day - l.day >= days ? -l.n : 0;
            }
        }
        return sum;
    }

    int statement(int k, int what, boolean came) {
        if (!member(k) || what < 0 || what > 4) {
            return NONE;
        }
        int sum = 0;
        for (int[] l : s.book) {
            sum += l[1] == what && l[came ? 4 : 3] == k ? l[5] : 0;
        }
        return sum;
    }

    int tomorrow(int k, int i, int what) {
        if (!member(k) || !anIssue(i) || s.day == 99 || what < 0 || what > 9) {
            return NOTHING;
        }
        State today = s;
        s = today.copy();
        oneNight();
        int answer = what == 9 ? (int) (s.cash[k] - today.cash[k]) : at(k, i, what);
        s = today;
        return answer;
    }

    int ahead(int k, int i) {
        if (!member(k) || !anIssue(i) || longOf(k, i) == 0) {
            return NONE;
        }
        int sum = 0;
        for (Place p : queueOf(i)) {
            if (p.member == k) {
                return sum;
            }
            sum += p.lot.n;
        }
        return NONE;
    }

    int reached(int trade, int what) {
        if (trade < 0 || trade >= s.trades.size() || what < 0 || what > 1) {
            return NONE;
        }
        Trade t = s.trades.get(trade);
        if (!t.apart || t.open == 0) {
            return NONE;
        }
        List<Trade> links = chain(t, t.open);
        return what == 0 ? links.get(links.size() - 1).seller : links.size();
    }

    boolean image(boolean taken) {
        if (taken) {
            image = s.copy();
            return true;
        }
        if (image == null) {
            return false;
        }
        s = image.copy();
        return true;
    }

    int look(int what) {
        int open = 0;
        int openNet = 0;
        int lack = 0;
        int suspended = 0;
        int shorts = 0;
        long all = 0;
        for (Notice x : s.notices) {
            open += x.open ? 1 : 0;
        }
        for (Trade t : s.trades) {
            openNet += t.apart ? 0 : t.open;
        }
        for (int k = 0; k < 12; k++) {
            all += s.cash[k];
        }
        for (int k = 0; k < m(); k++) {
            lack += margin(k, 2) > 0 ? 1 : 0;
            suspended |= s.suspended[k] ? 1 << k : 0;
            for (int i = 0; i < 6; i++) {
                shorts |= shortOf(k, i) > 0 ? 1 << k : 0;
            }
        }
        switch (what) {
            case 0: case 1: case 2: case 3: case 4: case 5: return s.set[what];
            case 6: return s.day;
            case 7: return s.trades.size();
            case 8: return s.notices.size();
            case 9: return open;
            case 10: return s.book.size();
            case 11: return (int) s.outside;
            case 12: return (int) all;
            case 13: return s.plan.size();
            case 14: return s.ran;
            case 15: return openNet;
            case 16: return lack;
            case 17: return suspended;
            case 18: return shorts;
            case 19: return s.set[6];
            default: return NOTHING;
        }
    }
}
