/**
 * Settlement of shares through a house: trades are netted into lots that roll from day to day,
 * each night delivers, allots, lends, closes out and marks. ../shared/DOC.md says what each call
 * answers; the words that stand in capitals there are the words of the comments here.
 */
public final class RollingNets {
    public static final int NONE = -1;

    private static final int NO_FIGURE = NONE - 999999;

    private static final int MEMBERS_MOST = 12;
    private static final int ISSUES = 6;
    private static final int LAST_DAY = 99;
    private static final int DAYS = LAST_DAY + 1;
    private static final int TRADES_MOST = 200;
    private static final int NOTICES_MOST = 60;
    private static final int BOOK_MOST = 300;
    private static final int NIGHTS_MOST = 20;
    private static final int STOCK_TOLD_MOST = 99999;
    private static final int SPLIT_MOST = 99999999;
    private static final int RANK_MOST = 9;
    private static final int NUMBER_MOST = 9999;
    private static final int COLLATERAL_MOST = 9999999;
    private static final int DIVIDEND_MOST = 99;
    private static final int STRESS_MOST = 99;

    // What set() tells, by its number.
    private static final int MEMBERS = 0;
    private static final int LAG = 1;
    private static final int LOAN_AGE = 2;
    private static final int BUY_AGE = 3;
    private static final int GRACE = 4;
    private static final int PREMIUM = 5;
    private static final int RATE = 6;
    private static final int[] TOLD_FIRST = {6, 2, 2, 3, 1, 10, 0};
    private static final int[] TOLD_LEAST = {2, 0, 1, 1, 0, 0, 0};
    private static final int[] TOLD_MOST = {12, 3, 9, 9, 5, 100, 100};

    // The columns of a TRADE, as deal() numbers them.
    private static final int BUYER = 0;
    private static final int SELLER = 1;
    private static final int ISSUE = 2;
    private static final int SHARES = 3;
    private static final int PRICE = 4;
    private static final int APART = 5;
    private static final int DUE = 6;
    private static final int OPEN = 7;
    private static final int DEAL_COLUMNS = 8;

    // The columns of a NOTICE, as notice() numbers them, but for what is ASSIGNED.
    private static final int GIVER = 0;
    private static final int GIVEN_ISSUE = 1;
    private static final int GIVEN_SHARES = 2;
    private static final int GIVEN_DUE = 3;
    private static final int GIVEN_OPEN = 4;
    private static final int GIVEN_TRADE = 5;
    private static final int BOUGHT = 6;
    private static final int ASSIGNED = 7;
    private static final int ASSIGNED_WHAT = 10;
    private static final int NOTICE_COLUMNS = ASSIGNED + MEMBERS_MOST;

    // The columns of a line of THE BOOK, as book() numbers them, and what a line may tell.
    private static final int LINE_DAY = 0;
    private static final int LINE_WHAT = 1;
    private static final int LINE_ISSUE = 2;
    private static final int LINE_FROM = 3;
    private static final int LINE_TO = 4;
    private static final int LINE_SHARES = 5;
    private static final int BOOK_COLUMNS = 6;
    private static final int DELIVERED = 0;
    private static final int ALLOTTED = 1;
    private static final int LENT = 2;
    private static final int PASSED_APART = 3;
    private static final int BOUGHT_IN = 4;

    private static final int HAIRCUT = 10;
    private static final int HAIRCUT_A_DAY = 5;
    private static final int HAIRCUT_MOST = 100;

    // The lines that a plan may have, by the number of their word.
    private static final int WORD_BUY = 0;
    private static final int WORD_APART = 1;
    private static final int WORD_STOCK = 2;
    private static final int WORD_RESERVE = 3;
    private static final int WORD_LEND = 4;
    private static final int WORD_RANK = 5;
    private static final int WORD_PRICE = 6;
    private static final int WORD_GIVE = 7;
    private static final int WORD_CALL = 8;
    private static final int WORD_NIGHT = 9;
    private static final int WORDS = 10;
    private static final int PLAN_MOST = 24;
    private static final int PLAN_COLUMNS = 6;
    private static final int TAPE_MOST = 400;
    private static final int TAPE_STEP = 20;
    private static final int DIGITS_MOST = 4;

    private static final int FAULT_PLACE = 1;
    private static final int FAULT_BOUNDS = 2;
    private static final int FAULT_LINES = 3;

    private final House now;
    private final House kept;
    private final House thought;
    private final Reader reader;
    private boolean isKept;

    public RollingNets() {
        now = new House();
        kept = new House();
        thought = new House();
        reader = new Reader();
        isKept = false;
    }

    // ---- what is told ----

    public boolean set(int what, int v) {
        if (what < 0 || what >= TOLD_FIRST.length || !within(v, TOLD_LEAST[what], TOLD_MOST[what])) {
            return false;
        }
        if (what == MEMBERS && now.deals.size() > 0) {
            return false;
        }
        now.told[what] = v;
        return true;
    }

    public boolean tell(int member, int issue, int what, int v) {
        if (!now.hasMember(member)) {
            return false;
        }
        if (what == 3) {
            return tellRank(member, v);
        }
        if (!isIssue(issue) || !within(v, 0, STOCK_TOLD_MOST)) {
            return false;
        }
        Market market = now.markets[issue];
        switch (what) {
            case 0:
                market.stock[member] = v;
                return true;
            case 1:
                market.reserved[member] = v;
                return true;
            case 2:
                market.lends[member] = v;
                return true;
            default:
                return false;
        }
    }

    private boolean tellRank(int member, int v) {
        if (!within(v, 0, RANK_MOST)) {
            return false;
        }
        now.rank[member] = v;
        return true;
    }

    public boolean price(int issue, int p) {
        if (!isIssue(issue) || !within(p, 1, NUMBER_MOST)) {
            return false;
        }
        now.markets[issue].price = p;
        return true;
    }

    public int trade(int buyer, int seller, int issue, int shares, int price) {
        return now.addDeal(buyer, seller, issue, shares, price, 0);
    }

    public int apart(int buyer, int seller, int issue, int shares, int price) {
        return now.addDeal(buyer, seller, issue, shares, price, 1);
    }

    public boolean dividend(int issue, int v) {
        if (!isIssue(issue) || !within(v, 0, DIVIDEND_MOST)) {
            return false;
        }
        now.markets[issue].payout = v;
        return true;
    }

    public boolean move(int from, int to, int issue, int n) {
        if (!now.hasMember(from) || !now.hasMember(to) || from == to || !isIssue(issue)) {
            return false;
        }
        if (n < 1 || n > now.freeOf(issue, from)) {
            return false;
        }
        Market market = now.markets[issue];
        market.stock[from] -= n;
        market.stock[to] += n;
        return true;
    }

    public boolean split(int issue, int n) {
        if (!isIssue(issue) || !within(n, 2, 5) || now.hasOpen(issue)) {
            return false;
        }
        return now.markets[issue].multiply(n, now.members());
    }

    public boolean suspend(int member, boolean is) {
        if (!now.hasMember(member)) {
            return false;
        }
        now.suspended[member] = is;
        return true;
    }

    public boolean collateral(int member, int v) {
        if (!now.hasMember(member) || !within(v, 0, COLLATERAL_MOST)) {
            return false;
        }
        now.pledged[member] = v;
        return true;
    }

    public int night(int n) {
        return Night.pass(now, n);
    }

    public int give(int member, int issue, int shares) {
        return Notices.giveNet(now, member, issue, shares);
    }

    public int call(int trade) {
        return Notices.giveApart(now, trade);
    }

    // ---- plans and the image ----

    public int feed(int a, int b, int c, int d, int e) {
        if (!reader.hasRoom()) {
            return NONE;
        }
        reader.append(a);
        reader.append(b);
        reader.append(c);
        reader.append(d);
        reader.append(e);
        return reader.length;
    }

    public boolean end(int n) {
        if (n < 0 || n > reader.length) {
            return false;
        }
        reader.length = n;
        return true;
    }

    public int plan() {
        if (!reader.read()) {
            return NONE;
        }
        now.plan.copyFrom(reader.draft);
        now.planDone = 0;
        return now.plan.size();
    }

    public int fault(int what) {
        switch (what) {
            case 0:
                return reader.fault;
            case 1:
                return reader.faultPlace;
            default:
                return NONE;
        }
    }

    public int run(int k) {
        if (!within(k, 1, PLAN_MOST)) {
            return NONE;
        }
        int done = 0;
        for (int i = 0; i < k && now.planDone < now.plan.size(); i++) {
            int line = now.planDone;
            now.planDone++;
            // A night goes deep: it starts from here, so that the calls under it stay few.
            boolean isNight = now.plan.get(0, line) == WORD_NIGHT;
            if (isNight ? Night.pass(now, now.plan.get(1, line)) != NONE : perform(line)) {
                done++;
            }
        }
        return done;
    }

    private boolean perform(int line) {
        Table plan = now.plan;
        int a = plan.get(1, line);
        int b = plan.get(2, line);
        int c = plan.get(3, line);
        switch (plan.get(0, line)) {
            case WORD_BUY:
                return trade(a, b, c, plan.get(4, line), plan.get(5, line)) != NONE;
            case WORD_APART:
                return apart(a, b, c, plan.get(4, line), plan.get(5, line)) != NONE;
            case WORD_STOCK:
                return tell(a, b, 0, c);
            case WORD_RESERVE:
                return tell(a, b, 1, c);
            case WORD_LEND:
                return tell(a, b, 2, c);
            case WORD_RANK:
                return tell(a, 0, 3, b);
            case WORD_PRICE:
                return price(a, b);
            case WORD_GIVE:
                return Notices.giveNet(now, a, b, c) != NONE;
            case WORD_CALL:
                return Notices.giveApart(now, a) != NONE;
            default:
                return false;
        }
    }

    public boolean image(boolean taken) {
        if (taken) {
            kept.copyFrom(now);
            isKept = true;
            return true;
        }
        if (!isKept) {
            return false;
        }
        now.copyFrom(kept);
        return true;
    }

    // ---- what is asked ----

    public int at(int member, int issue, int what) {
        if (!now.hasMember(member) || !isIssue(issue)) {
            return NO_FIGURE;
        }
        return what == 9 ? now.markets[issue].fails[member] : now.holding(member, issue, what);
    }

    public int lot(int member, int issue, int i, int what) {
        if (!now.hasMember(member) || !isIssue(issue)) {
            return NONE;
        }
        Market market = now.markets[issue];
        int day = market.dayOfLot(member, i);
        if (day == NONE) {
            return NONE;
        }
        switch (what) {
            case 0:
                return day;
            case 1:
                return market.lots[member][day];
            default:
                return NONE;
        }
    }

    public long cash(int member) {
        return now.hasMember(member) ? now.cash[member] : 0L;
    }

    public int deal(int trade, int what) {
        return now.deals.get(what, trade);
    }

    public int notice(int i, int what) {
        if (what >= GIVER && what <= BOUGHT) {
            return now.notices.get(what, i);
        }
        if (what < ASSIGNED_WHAT || !now.hasMember(what - ASSIGNED_WHAT)) {
            return NONE;
        }
        return now.notices.get(ASSIGNED + what - ASSIGNED_WHAT, i);
    }

    public int issue(int issue, int what) {
        return isIssue(issue) ? Figures.ofIssue(now, issue, what) : NONE;
    }

    public int book(int i, int what) {
        return now.book.get(what, i);
    }

    public long margin(int member, int what) {
        if (!now.hasMember(member)) {
            return NONE;
        }
        switch (what) {
            case 0:
                return Figures.demand(now, member);
            case 1:
                return now.pledged[member];
            case 2:
                return Figures.lacks(now, member);
            default:
                return NONE;
        }
    }

    public int stress(int x) {
        return within(x, -STRESS_MOST, STRESS_MOST) ? Figures.sunk(now, x) : NONE;
    }

    public int queue(int issue, int i, int what) {
        if (!isIssue(issue)) {
            return NONE;
        }
        Line line = now.line;
        line.form(now, issue);
        // How many are asked of no i-th: then the what, which is of one, is not looked at.
        if (i == NONE) {
            return line.size;
        }
        if (i < 0 || i >= line.size) {
            return NONE;
        }
        switch (what) {
            case 0:
                return line.member[i];
            case 1:
                return line.day[i];
            case 2:
                return now.markets[issue].lots[line.member[i]][line.day[i]];
            default:
                return NONE;
        }
    }

    public int aged(int issue, int days) {
        if (!isIssue(issue) || !within(days, 0, LAST_DAY)) {
            return NONE;
        }
        return Figures.agedShort(now, issue, days);
    }

    public int statement(int member, int what, boolean came) {
        if (!now.hasMember(member) || !within(what, DELIVERED, BOUGHT_IN)) {
            return NONE;
        }
        return Figures.booked(now.book, member, what, came ? LINE_TO : LINE_FROM);
    }

    public int tomorrow(int member, int issue, int what) {
        if (!now.hasMember(member) || !isIssue(issue) || now.day >= LAST_DAY) {
            return NO_FIGURE;
        }
        thought.copyFrom(now);
        Night.pass(thought, 1);
        if (what == 9) {
            return (int) (thought.cash[member] - now.cash[member]);
        }
        return thought.holding(member, issue, what);
    }

    public int ahead(int member, int issue) {
        if (!now.hasMember(member) || !isIssue(issue) || now.markets[issue].longOf(member) == 0) {
            return NONE;
        }
        return Figures.aheadOf(now, member, issue);
    }

    public int reached(int trade, int what) {
        Table deals = now.deals;
        if (deals.get(APART, trade) != 1 || deals.get(OPEN, trade) < 1) {
            return NONE;
        }
        Notices.layChain(now, trade, deals.get(OPEN, trade));
        switch (what) {
            case 0:
                return Notices.lastOfChain(now);
            case 1:
                return now.chainSize;
            default:
                return NONE;
        }
    }

    public int look(int what) {
        if (what >= MEMBERS && what <= PREMIUM) {
            return now.told[what];
        }
        switch (what) {
            case 6:
                return now.day;
            case 7:
                return now.deals.size();
            case 8:
                return now.notices.size();
            case 9:
                return Figures.openNotices(now);
            case 10:
                return now.book.size();
            case 11:
                return (int) now.outside;
            case 12:
                return (int) Figures.allCash(now);
            case 13:
                return now.plan.size();
            case 14:
                return now.planDone;
            case 15:
                return Figures.overDeals(now, NONE, 0, OPEN);
            case 16:
                return Figures.lacking(now);
            case 17:
                return Figures.suspendedSet(now);
            case 18:
                return Figures.shortSet(now);
            case 19:
                return now.told[RATE];
            default:
                return NO_FIGURE;
        }
    }

    private static boolean within(int v, int least, int most) {
        return v >= least && v <= most;
    }

    private static boolean isIssue(int issue) {
        return issue >= 0 && issue < ISSUES;
    }

    /** Rows of numbers, held by columns; made once and used again. */
    private static final class Table {
        private final int[][] cells;
        private final int most;
        private int count;

        Table(int columns, int rows) {
            cells = new int[columns][rows];
            most = rows;
            count = 0;
        }

        int size() {
            return count;
        }

        boolean isFull() {
            return count >= most;
        }

        int get(int column, int row) {
            if (column < 0 || column >= cells.length || row < 0 || row >= count) {
                return NONE;
            }
            return cells[column][row];
        }

        void put(int column, int row, int v) {
            if (column >= 0 && column < cells.length && row >= 0 && row < count) {
                cells[column][row] = v;
            }
        }

        /** A row of noughts behind the others: its number, NONE if there is no place for it. */
        int addRow() {
            if (isFull()) {
                return NONE;
            }
            for (int column = 0; column < cells.length; column++) {
                cells[column][count] = 0;
            }
            count++;
            return count - 1;
        }

        void clear() {
            count = 0;
        }

        void copyFrom(Table other) {
            int columns = Math.min(cells.length, other.cells.length);
            count = Math.min(other.count, most);
            for (int column = 0; column < columns; column++) {
                System.arraycopy(other.cells[column], 0, cells[column], 0, count);
            }
        }
    }

    /** One ISSUE: its PRICE, and what every MEMBER has of it. */
    private static final class Market {
        // No bound holds what a MEMBER may have by MOVED: more than an int can tell.
        private final long[] stock = new long[MEMBERS_MOST];
        private final int[] reserved = new int[MEMBERS_MOST];
        private final int[] lends = new int[MEMBERS_MOST];
        private final int[] lent = new int[MEMBERS_MOST];
        private final int[] fails = new int[MEMBERS_MOST];
        private final int[] position = new int[MEMBERS_MOST];
        // A LOT is told by its DAY: LOTS come by DAYS that never go back, and those of one DAY are one;
        // LONG ones are above 0, SHORT ones below.
        private final int[][] lots = new int[MEMBERS_MOST][DAYS];
        private int price = 100;
        private int marked = 100;
        private int payout = 0;
        // No LOT is of this DAY or a later one: what goes over the DAYS stops here.
        private int endDay = 0;

        int longOf(int member) {
            return Math.max(0, position[member]);
        }

        int shortOf(int member) {
            return Math.max(0, -position[member]);
        }

        long worth(int shares) {
            return (long) shares * marked;
        }

        /** The DAY of the i-th LOT of a MEMBER, NONE if it has not so many. */
        int dayOfLot(int member, int i) {
            int before = 0;
            for (int day = 0; day < endDay; day++) {
                if (lots[member][day] != 0) {
                    if (before == i) {
                        return day;
                    }
                    before++;
                }
            }
            return NONE;
        }

        int countLots(int member) {
            int count = 0;
            for (int day = 0; day < endDay; day++) {
                if (lots[member][day] != 0) {
                    count++;
                }
            }
            return count;
        }

        void changeLot(int member, int day, int by) {
            lots[member][day] += by;
            position[member] += by;
        }

        /** Takes n off the LOTS of a MEMBER, of whichever sort they are, from the first on. */
        void takeOff(int member, int n) {
            int left = n;
            for (int day = 0; day < endDay && left > 0; day++) {
                int here = lots[member][day];
                int part = Math.min(left, Math.abs(here));
                changeLot(member, day, here > 0 ? -part : part);
                left -= part;
            }
        }

        /** ADDS n to get (above 0) or to deliver (below 0) on a DAY. */
        void addLot(int member, int n, int day) {
            int netted = Math.min(Math.abs(n), n > 0 ? shortOf(member) : longOf(member));
            takeOff(member, netted);
            endDay = Math.max(endDay, day + 1);
            changeLot(member, day, n > 0 ? n - netted : n + netted);
        }

        /** A SPLIT by n over so many MEMBERS: whether it could be. */
        boolean multiply(int n, int members) {
            if (n < 1 || price % n != 0 || marked % n != 0) {
                return false;
            }
            int most = SPLIT_MOST / n;
            for (int member = 0; member < members; member++) {
                if (greatest(member) > most) {
                    return false;
                }
            }
            for (int member = 0; member < members; member++) {
                multiplyMember(member, n);
            }
            price /= n;
            marked /= n;
            return true;
        }

        private long greatest(int member) {
            long held = Math.max(stock[member], reserved[member]);
            int given = Math.max(lends[member], lent[member]);
            return Math.max(Math.max(held, given), Math.abs(position[member]));
        }

        private void multiplyMember(int member, int n) {
            stock[member] *= n;
            reserved[member] *= n;
            lends[member] *= n;
            lent[member] *= n;
            position[member] *= n;
            for (int day = 0; day < endDay; day++) {
                lots[member][day] *= n;
            }
        }

        void copyFrom(Market other) {
            int days = Math.max(endDay, other.endDay);
            for (int member = 0; member < MEMBERS_MOST; member++) {
                stock[member] = other.stock[member];
                reserved[member] = other.reserved[member];
                lends[member] = other.lends[member];
                lent[member] = other.lent[member];
                fails[member] = other.fails[member];
                position[member] = other.position[member];
                System.arraycopy(other.lots[member], 0, lots[member], 0, days);
            }
            price = other.price;
            marked = other.marked;
            payout = other.payout;
            endDay = other.endDay;
        }
    }

    /** All that is and was told, but the TAPE and its FAULT: what THE IMAGE takes. */
    private static final class House {
        private final int[] told = new int[TOLD_FIRST.length];
        private final long[] cash = new long[MEMBERS_MOST];
        private final int[] rank = new int[MEMBERS_MOST];
        private final int[] pledged = new int[MEMBERS_MOST];
        private final boolean[] suspended = new boolean[MEMBERS_MOST];
        private final Market[] markets = new Market[ISSUES];
        private final Table deals = new Table(DEAL_COLUMNS, TRADES_MOST);
        private final Table notices = new Table(NOTICE_COLUMNS, NOTICES_MOST);
        private final Table book = new Table(BOOK_COLUMNS, BOOK_MOST);
        private final Table plan = new Table(PLAN_COLUMNS, PLAN_MOST);
        private int planDone = 0;
        private int day = 0;
        private long outside = 0L;
        // From here on: rows for one step's work; nothing in them is asked for later.
        private final Line line = new Line();
        private final int[] chain = new int[MEMBERS_MOST];
        private int chainSize = 0;
        private final int[] parts = new int[MEMBERS_MOST];

        House() {
            System.arraycopy(TOLD_FIRST, 0, told, 0, told.length);
            for (int issue = 0; issue < ISSUES; issue++) {
                markets[issue] = new Market();
            }
        }

        int members() {
            return told[MEMBERS];
        }

        boolean hasMember(int member) {
            return member >= 0 && member < told[MEMBERS];
        }

        long freeOf(int issue, int member) {
            Market market = markets[issue];
            return suspended[member] ? 0L : Math.max(0L, market.stock[member] - market.reserved[member]);
        }

        int canLend(int issue, int member) {
            Market market = markets[issue];
            if (market.shortOf(member) > 0) {
                return 0;
            }
            long left = market.lends[member] - market.lent[member];
            return (int) Math.max(0L, Math.min(freeOf(issue, member), left));
        }

        int buyPrice(int issue) {
            int price = markets[issue].price;
            return price + price * told[PREMIUM] / 100;
        }

        void pay(int from, int to, long amount) {
            if (hasMember(from) && hasMember(to)) {
                cash[from] -= amount;
                cash[to] += amount;
            }
        }

        void write(int what, int issue, int from, int to, int shares) {
            int row = book.addRow();
            book.put(LINE_DAY, row, day);
            book.put(LINE_WHAT, row, what);
            book.put(LINE_ISSUE, row, issue);
            book.put(LINE_FROM, row, from);
            book.put(LINE_TO, row, to);
            book.put(LINE_SHARES, row, shares);
        }

        int addDeal(int buyer, int seller, int issue, int shares, int price, int apart) {
            if (!hasMember(buyer) || !hasMember(seller) || buyer == seller || !isIssue(issue)) {
                return NONE;
            }
            if (!within(shares, 1, NUMBER_MOST) || !within(price, 1, NUMBER_MOST)) {
                return NONE;
            }
            int trade = deals.addRow();
            deals.put(BUYER, trade, buyer);
            deals.put(SELLER, trade, seller);
            deals.put(ISSUE, trade, issue);
            deals.put(SHARES, trade, shares);
            deals.put(PRICE, trade, price);
            deals.put(APART, trade, apart);
            deals.put(DUE, trade, day + told[LAG]);
            deals.put(OPEN, trade, shares);
            return trade;
        }

        /**
         * Whether a TRADE is of an ISSUE, of a sort (APART 1, else 0), OPEN and DUE on this DAY or ahead;
         * its BUYER and its SELLER are there, then.
         */
        boolean isDue(int trade, int issue, int apart) {
            boolean isOpen = deals.get(OPEN, trade) > 0 && deals.get(DUE, trade) <= day;
            return isOpen && deals.get(ISSUE, trade) == issue && deals.get(APART, trade) == apart
                    && hasMember(deals.get(BUYER, trade)) && hasMember(deals.get(SELLER, trade));
        }

        boolean isOpenNotice(int i, int issue) {
            return notices.get(GIVEN_OPEN, i) == 1 && notices.get(GIVEN_ISSUE, i) == issue;
        }

        /** Whether a TRADE or a NOTICE of an ISSUE is OPEN. */
        boolean hasOpen(int issue) {
            for (int trade = 0; trade < deals.size(); trade++) {
                if (deals.get(ISSUE, trade) == issue && deals.get(OPEN, trade) > 0) {
                    return true;
                }
            }
            for (int i = 0; i < notices.size(); i++) {
                if (isOpenNotice(i, issue)) {
                    return true;
                }
            }
            return false;
        }

        /** What at() and tomorrow() both tell; the MEMBER and the ISSUE are there. */
        int holding(int member, int issue, int what) {
            Market market = markets[issue];
            switch (what) {
                case 0:
                    return market.position[member];
                case 1:
                    return (int) market.stock[member];
                case 2:
                    return (int) freeOf(issue, member);
                case 3:
                    return market.reserved[member];
                case 4:
                    return market.lends[member];
                case 5:
                    return market.lent[member];
                case 6:
                    return market.countLots(member);
                case 7:
                    return market.dayOfLot(member, 0);
                case 8:
                    return canLend(issue, member);
                default:
                    return NO_FIGURE;
            }
        }

        void copyFrom(House other) {
            System.arraycopy(other.told, 0, told, 0, told.length);
            for (int member = 0; member < MEMBERS_MOST; member++) {
                cash[member] = other.cash[member];
                rank[member] = other.rank[member];
                pledged[member] = other.pledged[member];
                suspended[member] = other.suspended[member];
            }
            for (int issue = 0; issue < ISSUES; issue++) {
                markets[issue].copyFrom(other.markets[issue]);
            }
            deals.copyFrom(other.deals);
            notices.copyFrom(other.notices);
            book.copyFrom(other.book);
            plan.copyFrom(other.plan);
            planDone = other.planDone;
            day = other.day;
            outside = other.outside;
        }
    }

    /** The LONG LOTS of an ISSUE in the order in which (c) serves them. */
    private static final class Line {
        private final int[] member = new int[MEMBERS_MOST * DAYS];
        private final int[] day = new int[MEMBERS_MOST * DAYS];
        private int size = 0;
        private final int[] byRank = new int[MEMBERS_MOST];

        void form(House house, int issue) {
            size = 0;
            sortByRank(house);
            Market market = house.markets[issue];
            int everyone = (1 << house.members()) - 1;
            int last = Figures.suspendedSet(house);
            int noticed = Notices.givers(house, issue);
            addGroup(market, everyone & ~last & noticed);
            addGroup(market, everyone & ~last & ~noticed);
            addGroup(market, last & noticed);
            addGroup(market, last & ~noticed);
        }

        private void sortByRank(House house) {
            int sorted = 0;
            for (int rank = RANK_MOST; rank >= 0; rank--) {
                for (int k = 0; k < house.members() && sorted < MEMBERS_MOST; k++) {
                    if (house.rank[k] == rank) {
                        byRank[sorted] = k;
                        sorted++;
                    }
                }
            }
            // Every MEMBER has one RANK; those not there are not sorted.
            for (int k = sorted; k < MEMBERS_MOST; k++) {
                byRank[k] = k;
            }
        }

        private void addGroup(Market market, int set) {
            if (set == 0) {
                return;
            }
            for (int d = 0; d < market.endDay; d++) {
                for (int i = 0; i < MEMBERS_MOST; i++) {
                    int k = byRank[i];
                    if ((set >> k & 1) != 0 && market.lots[k][d] > 0 && size < member.length) {
                        member[size] = k;
                        day[size] = d;
                        size++;
                    }
                }
            }
        }
    }

    /** A NIGHT, step by step, (a) to (g). */
    private static final class Night {
        /** NIGHTS, one behind the other: how many there were; NONE if n can't be, or there is none. */
        static int pass(House house, int n) {
            if (!within(n, 1, NIGHTS_MOST) || house.day >= LAST_DAY) {
                return NONE;
            }
            int done = 0;
            while (done < n && house.day < LAST_DAY) {
                for (int issue = 0; issue < ISSUES; issue++) {
                    netDue(house, issue);
                    int pool = deliverAll(house, issue);
                    allot(house, issue, pool);
                    lendToAged(house, issue);
                    passApart(house, issue);
                    Notices.closeDue(house, issue);
                    mark(house, issue);
                    payOut(house, issue);
                    countFails(house, issue);
                }
                house.day++;
                done++;
            }
            return done;
        }

        private static void netDue(House house, int issue) {
            Table deals = house.deals;
            Market market = house.markets[issue];
            for (int trade = 0; trade < deals.size(); trade++) {
                if (house.isDue(trade, issue, 0)) {
                    int buyer = deals.get(BUYER, trade);
                    int seller = deals.get(SELLER, trade);
                    int shares = deals.get(SHARES, trade);
                    house.pay(buyer, seller, (long) shares * (deals.get(PRICE, trade) - market.marked));
                    market.addLot(buyer, shares, house.day);
                    market.addLot(seller, -shares, house.day);
                    deals.put(OPEN, trade, 0);
                }
            }
        }

        /** (b): how many came into the POOL. */
        private static int deliverAll(House house, int issue) {
            Market market = house.markets[issue];
            int pool = 0;
            for (int day = 0; day < market.endDay; day++) {
                for (int member = 0; member < house.members(); member++) {
                    // Whoever has delivered has nothing FREE any more when a later LOT of it is met.
                    if (market.lots[member][day] < 0) {
                        pool += deliver(house, issue, member);
                    }
                }
            }
            return pool;
        }

        private static int deliver(House house, int issue, int member) {
            Market market = house.markets[issue];
            int n = (int) Math.min(market.shortOf(member), house.freeOf(issue, member));
            if (n == 0) {
                return 0;
            }
            market.stock[member] -= n;
            house.cash[member] += market.worth(n);
            market.takeOff(member, n);
            house.write(DELIVERED, issue, member, NONE, n);
            Notices.takeAssigned(house, issue, member, n);
            return n;
        }

        private static void allot(House house, int issue, int pool) {
            if (pool == 0) {
                return;
            }
            Market market = house.markets[issue];
            Line line = house.line;
            line.form(house, issue);
            int left = pool;
            for (int i = 0; i < line.size && left > 0; i++) {
                int member = line.member[i];
                int n = Math.min(left, market.lots[member][line.day[i]]);
                market.stock[member] += n;
                market.lent[member] = Math.max(0, market.lent[member] - n);
                house.cash[member] -= market.worth(n);
                market.changeLot(member, line.day[i], -n);
                house.write(ALLOTTED, issue, NONE, member, n);
                left -= n;
            }
        }

        private static void lendToAged(House house, int issue) {
            int latest = house.day - house.told[LOAN_AGE];
            Line line = house.line;
            line.form(house, issue);
            for (int i = 0; i < line.size; i++) {
                if (line.day[i] <= latest) {
                    lendTo(house, issue, line.member[i], line.day[i]);
                }
            }
        }

        private static void lendTo(House house, int issue, int member, int day) {
            Market market = house.markets[issue];
            // A lender that has lent to a LOT has no more to lend, or the LOT is gone.
            for (int i = 0; i < house.members() && market.lots[member][day] > 0; i++) {
                int lender = bestLender(house, issue, member);
                if (lender == NONE) {
                    return;
                }
                int n = Math.min(market.lots[member][day], house.canLend(issue, lender));
                market.stock[lender] -= n;
                market.lent[lender] += n;
                market.addLot(lender, n, house.day);
                market.stock[member] += n;
                market.changeLot(member, day, -n);
                house.pay(member, lender, market.worth(n));
                house.write(LENT, issue, lender, member, n);
            }
        }

        private static int bestLender(House house, int issue, int borrower) {
            int best = NONE;
            int most = 0;
            for (int member = 0; member < house.members(); member++) {
                int can = member == borrower ? 0 : house.canLend(issue, member);
                if (can > most) {
                    most = can;
                    best = member;
                }
            }
            return best;
        }

        private static void passApart(House house, int issue) {
            Table deals = house.deals;
            Market market = house.markets[issue];
            for (int trade = 0; trade < deals.size(); trade++) {
                if (!house.isDue(trade, issue, 1)) {
                    continue;
                }
                int buyer = deals.get(BUYER, trade);
                int seller = deals.get(SELLER, trade);
                int open = deals.get(OPEN, trade);
                if (house.freeOf(issue, seller) >= open) {
                    market.stock[seller] -= open;
                    market.stock[buyer] += open;
                    house.pay(buyer, seller, (long) open * deals.get(PRICE, trade));
                    deals.put(OPEN, trade, 0);
                    house.write(PASSED_APART, issue, seller, buyer, open);
                }
            }
        }

        private static void mark(House house, int issue) {
            Market market = house.markets[issue];
            long change = market.price - market.marked;
            for (int member = 0; member < house.members(); member++) {
                house.cash[member] += market.position[member] * change;
            }
            market.marked = market.price;
        }

        private static void payOut(House house, int issue) {
            Market market = house.markets[issue];
            long each = market.payout;
            for (int member = 0; member < house.members(); member++) {
                long stock = market.stock[member];
                house.cash[member] += each * (stock + market.position[member]);
                house.outside -= each * stock;
            }
            market.payout = 0;
        }

        private static void countFails(House house, int issue) {
            Market market = house.markets[issue];
            for (int member = 0; member < house.members(); member++) {
                int failing = market.shortOf(member);
                if (failing > 0) {
                    long fee = market.worth(failing) * house.told[RATE] / 10000;
                    market.fails[member]++;
                    house.cash[member] -= fee;
                    house.outside += fee;
                }
            }
        }
    }

    /** NOTICES, in net and APART: giving them, and CLOSING them OUT. */
    private static final class Notices {
        /** The MEMBERS (a set) that have a NOTICE in net OPEN for an ISSUE. */
        static int givers(House house, int issue) {
            Table notices = house.notices;
            int set = 0;
            for (int i = 0; i < notices.size(); i++) {
                if (house.isOpenNotice(i, issue) && notices.get(GIVEN_TRADE, i) == NONE) {
                    set |= 1 << notices.get(GIVER, i);
                }
            }
            return set;
        }

        static int giveNet(House house, int member, int issue, int shares) {
            if (!house.hasMember(member) || !isIssue(issue) || house.notices.isFull()) {
                return NONE;
            }
            if (shares < 1 || shares > agedLong(house, member, issue)) {
                return NONE;
            }
            if ((givers(house, issue) >> member & 1) != 0) {
                return NONE;
            }
            int assigned = assign(house, issue, shares);
            if (assigned == 0) {
                return NONE;
            }
            int i = addNotice(house, member, issue, assigned, NONE);
            for (int k = 0; k < house.members(); k++) {
                house.notices.put(ASSIGNED + k, i, house.parts[k]);
            }
            return i;
        }

        private static int agedLong(House house, int member, int issue) {
            Market market = house.markets[issue];
            int end = Math.min(market.endDay, house.day - house.told[BUY_AGE] + 1);
            int sum = 0;
            for (int day = 0; day < end; day++) {
                sum += Math.max(0, market.lots[member][day]);
            }
            return sum;
        }

        /** Shares out among those who are SHORT, into the parts: how many in all. */
        private static int assign(House house, int issue, int shares) {
            Market market = house.markets[issue];
            int[] parts = house.parts;
            for (int member = 0; member < MEMBERS_MOST; member++) {
                parts[member] = 0;
            }
            int left = shares;
            for (int day = 0; day < market.endDay; day++) {
                for (int member = 0; member < house.members(); member++) {
                    int here = -market.lots[member][day];
                    if (here > 0 && left > 0) {
                        int room = market.shortOf(member) - assignedTo(house, issue, member) - parts[member];
                        int n = Math.max(0, Math.min(left, Math.min(here, room)));
                        parts[member] += n;
                        left -= n;
                    }
                }
            }
            return shares - left;
        }

        private static int assignedTo(House house, int issue, int member) {
            int sum = 0;
            for (int i = 0; i < house.notices.size(); i++) {
                if (house.isOpenNotice(i, issue)) {
                    sum += house.notices.get(ASSIGNED + member, i);
                }
            }
            return sum;
        }

        private static int addNotice(House house, int giver, int issue, int shares, int trade) {
            Table notices = house.notices;
            int i = notices.addRow();
            notices.put(GIVER, i, giver);
            notices.put(GIVEN_ISSUE, i, issue);
            notices.put(GIVEN_SHARES, i, shares);
            notices.put(GIVEN_DUE, i, house.day + house.told[GRACE]);
            notices.put(GIVEN_OPEN, i, 1);
            notices.put(GIVEN_TRADE, i, trade);
            return i;
        }

        /** What a MEMBER has delivered takes off what is ASSIGNED to it. */
        static void takeAssigned(House house, int issue, int member, int n) {
            Table notices = house.notices;
            int left = n;
            for (int i = 0; i < notices.size() && left > 0; i++) {
                if (house.isOpenNotice(i, issue)) {
                    int part = Math.min(left, notices.get(ASSIGNED + member, i));
                    notices.put(ASSIGNED + member, i, notices.get(ASSIGNED + member, i) - part);
                    left -= part;
                }
            }
        }

        static int giveApart(House house, int trade) {
            Table deals = house.deals;
            int open = deals.get(OPEN, trade);
            if (deals.get(APART, trade) != 1 || open < 1 || isCalled(house, trade)) {
                return NONE;
            }
            if (house.notices.isFull() || deals.get(DUE, trade) > house.day - house.told[BUY_AGE]) {
                return NONE;
            }
            return addNotice(house, deals.get(BUYER, trade), deals.get(ISSUE, trade), open, trade);
        }

        private static boolean isCalled(House house, int trade) {
            Table notices = house.notices;
            for (int i = 0; i < notices.size(); i++) {
                if (notices.get(GIVEN_OPEN, i) == 1 && notices.get(GIVEN_TRADE, i) == trade) {
                    return true;
                }
            }
            return false;
        }

        static void closeDue(House house, int issue) {
            Table notices = house.notices;
            for (int i = 0; i < notices.size(); i++) {
                if (house.isOpenNotice(i, issue) && notices.get(GIVEN_DUE, i) <= house.day) {
                    int giver = notices.get(GIVER, i);
                    if (house.hasMember(giver) && notices.get(GIVEN_TRADE, i) == NONE) {
                        closeNet(house, issue, giver, i);
                    } else if (house.hasMember(giver)) {
                        closeApart(house, issue, giver, i);
                    }
                    notices.put(GIVEN_OPEN, i, 0);
                }
            }
        }

        private static void closeNet(House house, int issue, int giver, int i) {
            Table notices = house.notices;
            Market market = house.markets[issue];
            for (int member = 0; member < house.members(); member++) {
                int owed = Math.min(notices.get(ASSIGNED + member, i), market.shortOf(member));
                int n = Math.min(owed, market.longOf(giver));
                if (n > 0) {
                    long paid = (long) n * house.buyPrice(issue);
                    market.stock[giver] += n;
                    market.takeOff(giver, n);
                    market.takeOff(member, n);
                    house.pay(giver, member, market.worth(n));
                    house.cash[member] -= paid;
                    house.outside += paid;
                    notices.put(BOUGHT, i, notices.get(BOUGHT, i) + n);
                    house.write(BOUGHT_IN, issue, member, giver, n);
                }
            }
        }

        private static void closeApart(House house, int issue, int giver, int i) {
            Table deals = house.deals;
            int trade = house.notices.get(GIVEN_TRADE, i);
            int shares = house.notices.get(GIVEN_SHARES, i);
            if (deals.get(OPEN, trade) < shares) {
                return;
            }
            layChain(house, trade, shares);
            int last = lastOfChain(house);
            if (!house.hasMember(last)) {
                return;
            }
            long paid = (long) shares * house.buyPrice(issue);
            house.cash[last] -= paid;
            house.outside += paid;
            house.markets[issue].stock[giver] += shares;
            for (int link = 0; link < house.chainSize; link++) {
                int passed = house.chain[link];
                long amount = (long) shares * deals.get(PRICE, passed);
                house.pay(deals.get(BUYER, passed), deals.get(SELLER, passed), amount);
                deals.put(OPEN, passed, deals.get(OPEN, passed) - shares);
            }
            house.notices.put(BOUGHT, i, shares);
            house.write(BOUGHT_IN, issue, last, giver, shares);
        }

        /** Lays the CHAIN of a TRADE APART, as a NOTICE of so many SHARES would find it on this DAY. */
        static void layChain(House house, int trade, int shares) {
            Table deals = house.deals;
            int seen = 1 << deals.get(BUYER, trade);
            int next = trade;
            house.chainSize = 0;
            // Each TRADE brings a SELLER that was not in the CHAIN: it has fewer TRADES than there are MEMBERS.
            while (next != NONE && house.chainSize < house.chain.length) {
                house.chain[house.chainSize] = next;
                house.chainSize++;
                int seller = deals.get(SELLER, next);
                seen |= 1 << seller;
                next = nextLink(house, deals.get(ISSUE, trade), seller, shares, seen);
            }
        }

        private static int nextLink(House house, int issue, int buyer, int shares, int seen) {
            Table deals = house.deals;
            int best = NONE;
            for (int trade = 0; trade < deals.size(); trade++) {
                boolean goesOn = deals.get(BUYER, trade) == buyer && deals.get(ISSUE, trade) == issue
                        && (seen >> deals.get(SELLER, trade) & 1) == 0;
                boolean fits = deals.get(APART, trade) == 1 && deals.get(OPEN, trade) >= shares
                        && deals.get(DUE, trade) <= house.day;
                if (goesOn && fits && (best == NONE || deals.get(DUE, trade) < deals.get(DUE, best))) {
                    best = trade;
                }
            }
            return best;
        }

        static int lastOfChain(House house) {
            int links = house.chainSize;
            return links < 1 || links > house.chain.length ? NONE : house.deals.get(SELLER, house.chain[links - 1]);
        }
    }

    /** What is counted only when it is asked for. */
    private static final class Figures {
        static int ofIssue(House house, int issue, int what) {
            Market market = house.markets[issue];
            switch (what) {
                case 0:
                    return market.price;
                case 1:
                    return market.marked;
                case 2:
                case 3:
                case 4:
                    return overMembers(house, market, what);
                case 5:
                    return eldestDay(house, market);
                case 6:
                    return overDeals(house, issue, 1, OPEN);
                case 7:
                    return countDeals(house, issue);
                case 8:
                    return overDeals(house, issue, NONE, SHARES);
                default:
                    return NONE;
            }
        }

        /** Of all MEMBERS, as issue() numbers it: what 2 LONG, 3 SHORT, 4 STOCK. */
        private static int overMembers(House house, Market market, int what) {
            long sum = 0L;
            for (int member = 0; member < house.members(); member++) {
                if (what == 4) {
                    sum += market.stock[member];
                } else {
                    sum += what == 2 ? market.longOf(member) : market.shortOf(member);
                }
            }
            return (int) sum;
        }

        private static int eldestDay(House house, Market market) {
            int eldest = NONE;
            for (int member = 0; member < house.members(); member++) {
                int first = market.dayOfLot(member, 0);
                if (first != NONE && (eldest == NONE || first < eldest)) {
                    eldest = first;
                }
            }
            return eldest;
        }

        /** A column of TRADES, added: of an ISSUE and a sort (APART 1, else 0), each of all if it is NONE. */
        static int overDeals(House house, int issue, int apart, int column) {
            Table deals = house.deals;
            int sum = 0;
            for (int trade = 0; trade < deals.size(); trade++) {
                boolean isOfIssue = issue == NONE || deals.get(ISSUE, trade) == issue;
                if (isOfIssue && (apart == NONE || deals.get(APART, trade) == apart)) {
                    sum += deals.get(column, trade);
                }
            }
            return sum;
        }

        private static int countDeals(House house, int issue) {
            int count = 0;
            for (int trade = 0; trade < house.deals.size(); trade++) {
                if (house.deals.get(ISSUE, trade) == issue) {
                    count++;
                }
            }
            return count;
        }

        static int openNotices(House house) {
            int count = 0;
            for (int i = 0; i < house.notices.size(); i++) {
                count += house.notices.get(GIVEN_OPEN, i);
            }
            return count;
        }

        static long allCash(House house) {
            long sum = 0L;
            for (int member = 0; member < MEMBERS_MOST; member++) {
                sum += house.cash[member];
            }
            return sum;
        }

        static int suspendedSet(House house) {
            int set = 0;
            for (int member = 0; member < house.members(); member++) {
                if (house.suspended[member]) {
                    set |= 1 << member;
                }
            }
            return set;
        }

        static int shortSet(House house) {
            int set = 0;
            for (int issue = 0; issue < ISSUES; issue++) {
                for (int member = 0; member < house.members(); member++) {
                    if (house.markets[issue].shortOf(member) > 0) {
                        set |= 1 << member;
                    }
                }
            }
            return set;
        }

        static long demand(House house, int member) {
            long sum = 0L;
            for (int issue = 0; issue < ISSUES; issue++) {
                Market market = house.markets[issue];
                for (int day = 0; day < market.endDay; day++) {
                    int shares = market.lots[member][day];
                    int aged = shares < 0 ? HAIRCUT_A_DAY * (house.day - day) : 0;
                    int cut = Math.min(HAIRCUT_MOST, HAIRCUT + aged);
                    sum += market.worth(Math.abs(shares)) * cut / 100;
                }
            }
            return sum;
        }

        static long lacks(House house, int member) {
            return Math.max(0L, demand(house, member) - house.pledged[member]);
        }

        static int lacking(House house) {
            int count = 0;
            for (int member = 0; member < house.members(); member++) {
                if (lacks(house, member) > 0) {
                    count++;
                }
            }
            return count;
        }

        /** The MEMBERS (a set) whom a STRESS of x would bring below 0. */
        static int sunk(House house, int x) {
            int set = 0;
            for (int member = 0; member < house.members(); member++) {
                long sum = house.cash[member] + house.pledged[member];
                for (int issue = 0; issue < ISSUES; issue++) {
                    Market market = house.markets[issue];
                    sum += market.worth(market.position[member]) * x / 100;
                }
                if (sum < 0) {
                    set |= 1 << member;
                }
            }
            return set;
        }

        static int agedShort(House house, int issue, int days) {
            Market market = house.markets[issue];
            int end = Math.min(market.endDay, house.day - days + 1);
            int sum = 0;
            for (int day = 0; day < end; day++) {
                for (int member = 0; member < house.members(); member++) {
                    sum += Math.max(0, -market.lots[member][day]);
                }
            }
            return sum;
        }

        static int aheadOf(House house, int member, int issue) {
            Line line = house.line;
            line.form(house, issue);
            int sum = 0;
            for (int i = 0; i < line.size && line.member[i] != member; i++) {
                sum += house.markets[issue].lots[line.member[i]][line.day[i]];
            }
            return sum;
        }

        static int booked(Table book, int member, int what, int side) {
            int sum = 0;
            for (int i = 0; i < book.size(); i++) {
                if (book.get(LINE_WHAT, i) == what && book.get(side, i) == member) {
                    sum += book.get(LINE_SHARES, i);
                }
            }
            return sum;
        }
    }

    /** The TAPE, and what reads it as a plan. */
    private static final class Reader {
        private final int[] tape = new int[TAPE_MOST];
        private int length = 0;
        private final Table draft = new Table(PLAN_COLUMNS, PLAN_MOST);
        private int place = 0;
        private int fault = 0;
        private int faultPlace = NONE;

        boolean hasRoom() {
            return length + TAPE_STEP <= TAPE_MOST;
        }

        void append(int number) {
            for (int shift = 24; shift >= 0 && length < TAPE_MOST; shift -= 8) {
                tape[length] = number >> shift & 255;
                length++;
            }
        }

        /** Reads the TAPE into the draft, and empties it: whether it had no FAULT. */
        boolean read() {
            draft.clear();
            place = 0;
            fault = 0;
            faultPlace = NONE;
            skipBlanks();
            for (int line = 0; line <= PLAN_MOST && place < length && fault == 0; line++) {
                readLine();
                skipBlanks();
            }
            length = 0;
            return fault == 0;
        }

        private void readLine() {
            int kind = wordHere();
            if (kind == NONE) {
                failHere(FAULT_PLACE);
                return;
            }
            int line = draft.addRow();
            if (line == NONE) {
                failHere(FAULT_LINES);
                return;
            }
            draft.put(0, line, kind);
            place += wordOf(kind).length();
            String shape = shapeOf(kind);
            for (int i = 0; i < shape.length() && fault == 0; i++) {
                readNumber(line, i + 1, shape.charAt(i));
            }
            skipBlanks();
            if (fault == 0 && here(place) != ';') {
                failHere(FAULT_PLACE);
            }
            place++;
        }

        private void readNumber(int line, int column, char sort) {
            skipBlanks();
            int end = place;
            int v = 0;
            while (end < length && within(tape[end], '0', '9')) {
                v = end - place < DIGITS_MOST ? v * 10 + tape[end] - '0' : v;
                end++;
            }
            if (end == place || end - place > DIGITS_MOST) {
                failHere(FAULT_PLACE);
            } else if (!within(v, leastOf(sort), mostOf(sort))) {
                failHere(FAULT_BOUNDS);
            }
            draft.put(column, line, v);
            place = end;
        }

        private void failHere(int kind) {
            fault = kind;
            faultPlace = place;
        }

        private int here(int at) {
            return at >= 0 && at < length ? tape[at] : NONE;
        }

        private void skipBlanks() {
            while (place < length && (here(place) == 32 || here(place) == 10)) {
                place++;
            }
        }

        private static boolean isLetter(int sign) {
            return within(sign, 'a', 'z') || within(sign, 'A', 'Z');
        }

        private int wordHere() {
            for (int kind = 0; kind < WORDS; kind++) {
                if (isHere(wordOf(kind))) {
                    return kind;
                }
            }
            return NONE;
        }

        private boolean isHere(String word) {
            for (int i = 0; i < word.length(); i++) {
                if (here(place + i) != word.charAt(i)) {
                    return false;
                }
            }
            return !isLetter(here(place + word.length()));
        }

        private static String wordOf(int kind) {
            switch (kind) {
                case WORD_BUY:
                    return "buy";
                case WORD_APART:
                    return "apart";
                case WORD_STOCK:
                    return "stock";
                case WORD_RESERVE:
                    return "reserve";
                case WORD_LEND:
                    return "lend";
                case WORD_RANK:
                    return "rank";
                case WORD_PRICE:
                    return "price";
                case WORD_GIVE:
                    return "give";
                case WORD_CALL:
                    return "call";
                default:
                    return "night";
            }
        }

        /** The numbers that stand behind a word: M a MEMBER, I an ISSUE, Z as N, but 0 too. */
        private static String shapeOf(int kind) {
            switch (kind) {
                case WORD_BUY:
                case WORD_APART:
                    return "MMINP";
                case WORD_STOCK:
                case WORD_RESERVE:
                case WORD_LEND:
                    return "MIZ";
                case WORD_RANK:
                    return "MR";
                case WORD_PRICE:
                    return "IP";
                case WORD_GIVE:
                    return "MIN";
                case WORD_CALL:
                    return "T";
                default:
                    return "K";
            }
        }

        private static int leastOf(char sort) {
            return sort == 'N' || sort == 'P' || sort == 'K' ? 1 : 0;
        }

        private static int mostOf(char sort) {
            switch (sort) {
                case 'M':
                    return MEMBERS_MOST - 1;
                case 'I':
                    return ISSUES - 1;
                case 'R':
                    return RANK_MOST;
                case 'T':
                    return TRADES_MOST - 1;
                case 'K':
                    return NIGHTS_MOST;
                default:
                    return NUMBER_MOST;
            }
        }
    }
}
