/**
 * The bounds that 'Terms', section 2, names, sentence by sentence: a NIGHT, (a) to (g): nothing, just as many,
 * one fewer, one more, and which of two goes first.
 */
public final class Section2Test {
    private static final Due due = new Due();

    public static void main(String[] args) {
        lastDay();
        nothingInANight();
        nettedAtPrices();
        nettedOnce();
        freeAtMost();
        deliveringOrder();
        takenOffFromTheFirst();
        nothingInThePool();
        poolAndLots();
        suspendedBehindNoticed();
        noticedAheadOfOlder();
        noticedInNetAlone();
        olderAheadOfRank();
        rankAheadOfMember();
        lentIsLessByAllotted();
        lendsAtMost();
        lendsMost();
        lenderIsNotShort();
        lenderIsAnother();
        lenderIsThere();
        lentTillItHasAll();
        lentToInOrder();
        apartAllOrNone();
        apartDue();
        apartByNumber();
        closedByNumber();
        marked();
        stepByStep();
        issueByIssue();
        due.end();
    }

    // "then DAY is one more (99 at most: no NIGHT on DAY 99)."

    private static void lastDay() {
        int[][] all = {{0, 20}, {78, 20}, {79, 20}, {80, 19}, {97, 2}, {98, 1}, {99, -1}};
        for (int[] one : all) {
            RollingNets x = Make.onDay(one[0]);
            due.is("day", x.look(6), one[0]);
            due.is("night(20) on day " + one[0], x.night(20), one[1]);
            due.is("day", x.look(6), Math.min(99, one[0] + 20));
        }
        RollingNets x = Make.onDay(98);
        x.trade(0, 1, 0, 10, 100);
        due.is("night(1) on day 98", x.night(1), 1);
        due.lots(x, 0, 0, 98, 10);
        x.trade(0, 1, 0, 10, 100);
        x.price(0, 50);
        x.dividend(0, 9);
        for (int n = -1; n <= 21; n++) {
            due.is("night(" + n + ") on day 99", x.night(n), -1);
        }
        due.is("day", x.look(6), 99);
        due.is("open", x.deal(1, 7), 10);
        due.lots(x, 0, 0, 98, 10);
        due.is("not marked", x.issue(0, 1), 100);
        due.is("no dividend", x.cash(0), 0);
        due.is("no more fails", x.at(1, 0, 9), 1);
    }

    private static void nothingInANight() {
        RollingNets x = new RollingNets();
        due.is("night(1)", x.night(1), 1);
        due.is("day", x.look(6), 1);
        due.is("no line", x.look(10), 0);
        due.is("no cash", x.look(12), 0);
        due.is("outside", x.look(11), 0);
        for (int n : Make.beyond(1, 20)) {
            due.is("night(" + n + ")", x.night(n), -1);
            due.is("day", x.look(6), 1);
        }
    }

    // (a) "CASH of BUYER SHARES times (the TRADE's PRICE less MARKED) less, of SELLER more"

    private static void nettedAtPrices() {
        int[][] all = {{100, 100, 1}, {99, 100, 1}, {101, 100, 1}, {1, 9999, 9999}, {9999, 1, 9999}, {9999, 9999, 9999}};
        for (int[] one : all) {
            RollingNets x = Make.noLag();
            x.price(0, one[1]);
            x.night(1);
            x.trade(0, 1, 0, one[2], one[0]);
            x.night(1);
            long want = (long) one[2] * (one[0] - one[1]);
            due.is("cash of the buyer", x.cash(0), -want);
            due.is("cash of the seller", x.cash(1), want);
            due.is("nought in all", x.look(12), 0);
        }
    }

    // (a) "that are DUE on d or ahead and OPEN ..; OPEN 0."

    private static void nettedOnce() {
        RollingNets x = new RollingNets();
        x.set(1, 1);
        x.trade(0, 1, 0, 10, 90);
        x.night(1);
        due.is("not due", x.deal(0, 7), 10);
        due.lots(x, 0, 0);
        due.is("no cash", x.cash(0), 0);
        x.night(1);
        due.is("open", x.deal(0, 7), 0);
        due.lots(x, 0, 0, 1, 10);
        due.is("cash", x.cash(0), 100);
        x.night(3);
        due.lots(x, 0, 0, 1, 10);
        due.lots(x, 1, 0, 1, -10);
        due.is("cash", x.cash(0), 100);
    }

    // (b) "as many as are SHORT, FREE at most (0: nothing) ..; a line"

    private static void freeAtMost() {
        int[] free = {0, 1, 9, 10, 11, 99999};
        for (int has : free) {
            for (int reserved = 0; reserved <= 3 && has + reserved <= 99999; reserved += 3) {
                RollingNets x = Make.noLag();
                x.trade(0, 1, 0, 10, 100);
                x.tell(1, 0, 0, has + reserved);
                x.tell(1, 0, 1, reserved);
                x.night(1);
                int n = Math.min(has, 10);
                due.is("stock left, free " + has, x.at(1, 0, 1), has + reserved - n);
                due.is("came", x.at(0, 0, 1), n);
                due.is("cash", x.cash(1), 100 * n);
                due.is("cash", x.cash(0), -100 * n);
                due.is("short yet", x.at(1, 0, 0), n - 10);
                due.is("long yet", x.at(0, 0, 0), 10 - n);
                due.is("lines", x.look(10), n == 0 ? 0 : 2);
                if (n > 0) {
                    due.line(x, 0, 0, 0, 0, 1, -1, n);
                    due.line(x, 1, 0, 1, 0, -1, 0, n);
                }
            }
        }
    }

    // (b) "by the DAY of their first LOT, then by number"

    private static void deliveringOrder() {
        int[][] all = {{1, 4}, {4, 1}, {2, 3}, {3, 2}};
        for (int[] one : all) {
            RollingNets x = Make.noLag();
            x.trade(0, one[0], 0, 5, 100);
            x.night(1);
            x.trade(0, one[1], 0, 5, 100);
            x.night(1);
            // More of the younger one's: its last lot is as old as the other's.
            x.trade(0, one[0], 0, 1, 100);
            x.tell(1, 0, 0, 9);
            x.tell(2, 0, 0, 9);
            x.tell(3, 0, 0, 9);
            x.tell(4, 0, 0, 9);
            x.night(1);
            due.is("the older first", x.book(0, 3), one[0]);
            due.is("then the younger", x.book(1, 3), one[1]);
        }
        RollingNets x = Make.noLag();
        for (int member = 5; member > 0; member--) {
            x.trade(0, member, 0, 1, 100);
            x.tell(member, 0, 0, 1);
        }
        x.night(1);
        for (int i = 0; i < 5; i++) {
            due.is("of one day: by number", x.book(i, 3), i + 1);
        }
    }

    // (b) "taken off its LOTS from the first on, into the POOL"

    private static void takenOffFromTheFirst() {
        int[][] all = {
            {4, 0, -1, 1, -6, 2, -7}, {5, 1, -6, 2, -7}, {6, 1, -5, 2, -7}, {10, 1, -1, 2, -7},
            {11, 2, -7}, {12, 2, -6}, {17, 2, -1}, {18}, {19},
        };
        for (int[] one : all) {
            RollingNets x = Make.noLag();
            for (int n = 5; n <= 7; n++) {
                x.trade(0, 1, 0, n, 100);
                x.night(1);
            }
            x.tell(1, 0, 0, one[0]);
            x.night(1);
            int[] want = new int[one.length - 1];
            System.arraycopy(one, 1, want, 0, want.length);
            due.lots(x, 1, 0, want);
            for (int i = 1; i < want.length; i += 2) {
                want[i] = -want[i];
            }
            due.lots(x, 0, 0, want);
        }
    }

    // (c) "as long as there is any in the POOL"

    private static void nothingInThePool() {
        RollingNets x = Make.noLag();
        x.tell(0, 0, 0, 50);
        x.tell(1, 0, 0, 0);
        x.trade(0, 1, 0, 10, 100);
        x.night(1);
        due.is("no line", x.look(10), 0);
        due.is("what others have is not in it", x.at(0, 0, 1), 50);
        due.lots(x, 0, 0, 0, 10);
    }

    // (c) "as much of it as the POOL has goes to it: .. the LOT less (gone at 0); a line"

    private static void poolAndLots() {
        for (int pool = 1; pool <= 12; pool++) {
            RollingNets x = Make.noLag();
            x.trade(0, 1, 0, 5, 100);
            x.night(1);
            x.trade(2, 1, 0, 6, 100);
            x.night(1);
            x.tell(1, 0, 0, pool);
            x.night(1);
            int first = Math.min(5, pool);
            int second = Math.min(6, pool - first);
            due.is("first", x.at(0, 0, 1), first);
            due.is("second", x.at(2, 0, 1), second);
            due.is("its lots, pool " + pool, x.at(0, 0, 6), first == 5 ? 0 : 1);
            due.is("its lots, pool " + pool, x.at(2, 0, 6), second == 6 ? 0 : 1);
            due.is("waits yet", x.at(0, 0, 0), 5 - first);
            due.is("waits yet", x.at(2, 0, 0), 6 - second);
            due.is("lines", x.look(10), second > 0 ? 3 : 2);
            due.is("cash", x.cash(0), -100 * first);
            due.is("cash", x.cash(2), -100 * second);
        }
    }

    // (c) "that one which goes first: of those not SUSPENDED ahead of those who are, then NOTICED ahead of others
    // (..), then by the least DAY, then by the greatest RANK, then by the least MEMBER"

    /** One share comes in: who gets it. */
    private static void gets(String why, RollingNets x, int member) {
        due.is(why + ": first of the queue", x.queue(0, 0, 0), member);
        due.is(why + ": nothing ahead of it", x.ahead(member, 0), 0);
        int before = x.at(member, 0, 1);
        int lines = x.look(10);
        x.tell(5, 0, 0, 1);
        x.night(1);
        due.is(why, x.at(member, 0, 1), before + 1);
        due.is(why, x.book(lines + 1, 4), member);
    }

    private static RollingNets twoWait(int older, int younger) {
        RollingNets x = Make.noLag();
        x.set(2, 9);
        x.set(3, 1);
        x.set(4, 5);
        x.trade(older, 5, 0, 10, 100);
        x.night(1);
        x.trade(younger, 5, 0, 10, 100);
        x.night(1);
        return x;
    }

    private static void suspendedBehindNoticed() {
        RollingNets x = twoWait(0, 1);
        due.is("give", x.give(0, 0, 1), 0);
        x.tell(0, 0, 3, 9);
        x.suspend(0, true);
        gets("suspended, though noticed, older, of greater rank and less number", x, 1);
        x.suspend(1, true);
        gets("both suspended: noticed", x, 0);
        x.suspend(0, false);
        gets("not suspended", x, 0);
    }

    private static void noticedAheadOfOlder() {
        RollingNets x = twoWait(0, 1);
        x.tell(0, 0, 3, 9);
        gets("none noticed: the older", x, 0);
        due.is("give", x.give(1, 0, 1), 0);
        gets("noticed, though younger, of less rank and greater number", x, 1);
        due.is("give", x.give(0, 0, 1), 1);
        gets("both noticed: the older", x, 0);
        // The notice is closed out in the night of day 9; then it is none.
        Make.nights(x, 5);
        due.is("closed", x.look(9), 0);
        gets("none noticed any more", x, 0);
    }

    private static void noticedInNetAlone() {
        RollingNets x = twoWait(0, 1);
        x.apart(1, 5, 0, 1000, 100);
        x.trade(1, 5, 1, 10, 100);
        x.night(2);
        due.is("call", x.call(2), 0);
        gets("a notice apart is none", x, 0);
        due.is("give in another issue", x.give(1, 1, 1), 1);
        gets("a notice of another issue is none", x, 0);
        due.is("give", x.give(1, 0, 1), 2);
        gets("a notice in net is one", x, 1);
    }

    private static void olderAheadOfRank() {
        RollingNets x = twoWait(1, 0);
        x.tell(0, 0, 3, 9);
        gets("older by a day, though of less rank and greater number", x, 1);
    }

    private static void rankAheadOfMember() {
        for (int rank = 0; rank < 9; rank++) {
            RollingNets x = Make.noLag();
            x.trade(0, 5, 0, 10, 100);
            x.trade(1, 5, 0, 10, 100);
            x.tell(0, 0, 3, rank);
            x.tell(1, 0, 3, rank + 1);
            x.night(1);
            gets("rank " + (rank + 1), x, 1);
            x.tell(1, 0, 3, rank);
            gets("of one rank: the least", x, 0);
        }
    }

    // (d) "(LENT: 0 at first; less by what is ALLOTTED to the MEMBER of the ISSUE, 0 at least.)"

    private static void lentIsLessByAllotted() {
        for (int came = 1; came <= 12; came++) {
            RollingNets x = Make.noLag();
            x.set(2, 1);
            x.trade(0, 1, 0, 10, 100);
            x.trade(0, 1, 1, 10, 100);
            x.night(1);
            x.tell(2, 0, 0, 10);
            x.tell(2, 0, 2, 10);
            x.tell(2, 1, 0, 10);
            x.tell(2, 1, 2, 10);
            due.is("at first", x.at(2, 0, 5), 0);
            x.night(1);
            due.is("lent", x.at(2, 0, 5), 10);
            due.is("lent of the other", x.at(2, 1, 5), 10);
            x.trade(2, 1, 0, 5, 100);
            x.tell(1, 0, 0, came);
            x.night(1);
            due.is("allotted", x.at(2, 0, 1), came);
            due.is("lent less " + came, x.at(2, 0, 5), Math.max(0, 10 - came));
            due.is("lent of the other", x.at(2, 1, 5), 10);
            due.is("could lend", x.at(2, 0, 8), Math.min(came, 10));
        }
    }

    // (d) "that can lend most (the least of FREE, LENDS less LENT; above 0) ..: as much as both can"

    private static void lendsAtMost() {
        int[][] all = {
            {0, 20}, {1, 20}, {20, 0}, {20, 1}, {9, 20}, {10, 20}, {11, 20}, {20, 9}, {20, 10}, {20, 11}, {10, 10},
            {9, 11}, {11, 9}, {99999, 99999},
        };
        for (int[] one : all) {
            RollingNets x = Make.noLag();
            x.set(2, 1);
            x.trade(0, 1, 0, 10, 100);
            x.night(1);
            x.tell(2, 0, 2, one[0]);
            x.tell(2, 0, 0, one[1]);
            int can = Math.min(one[0], one[1]);
            int n = Math.min(can, 10);
            due.is("could lend", x.at(2, 0, 8), can);
            x.night(1);
            due.is("lines", x.look(10), n == 0 ? 0 : 1);
            due.is("lent", x.at(2, 0, 5), n);
            due.is("stock", x.at(2, 0, 1), one[1] - n);
            due.is("borrowed", x.at(0, 0, 1), n);
            due.is("waits yet", x.at(0, 0, 0), 10 - n);
            due.is("waits now", x.at(2, 0, 0), n);
            due.is("cash", x.cash(2), 100 * n);
            due.is("cash", x.cash(0), -100 * n);
            due.is("could lend then", x.at(2, 0, 8), can - n);
            due.is("1 owes as it did", x.at(1, 0, 0), -10);
        }
        // LENDS told anew: less than, as much as, more than is LENT.
        RollingNets x = Make.noLag();
        x.set(2, 1);
        x.trade(0, 1, 0, 10, 100);
        x.tell(2, 0, 0, 99);
        x.tell(2, 0, 2, 4);
        x.night(2);
        for (int lends = 0; lends <= 6; lends++) {
            x.tell(2, 0, 2, lends);
            due.is("lends " + lends + " less lent 4", x.at(2, 0, 8), Math.max(0, lends - 4));
        }
    }

    // (d) "of several the least MEMBER"

    private static void lendsMost() {
        int[][] all = {{5, 5, 2}, {5, 6, 3}, {6, 5, 2}, {1, 2, 3}, {1, 1, 2}, {10, 11, 3}, {12, 11, 2}, {0, 1, 3}};
        for (int[] one : all) {
            RollingNets x = Make.noLag();
            x.set(2, 1);
            x.trade(0, 1, 0, 1, 100);
            x.night(1);
            for (int k = 2; k <= 3; k++) {
                x.tell(k, 0, 0, 50);
                x.tell(k, 0, 2, one[k - 2]);
            }
            x.night(1);
            due.line(x, 0, 1, 2, 0, one[2], 0, 1);
            due.is("one line", x.look(10), 1);
        }
    }

    // (d) "without SHORT LOTS of the ISSUE"

    private static void lenderIsNotShort() {
        RollingNets x = Make.noLag();
        x.set(2, 1);
        x.trade(0, 1, 0, 10, 100);
        x.trade(3, 2, 0, 1, 100);
        x.trade(3, 4, 1, 1, 100);
        x.tell(2, 0, 1, 99999);
        x.night(1);
        for (int k = 2; k <= 4; k += 2) {
            x.tell(k, 0, 0, 50);
            x.tell(k, 0, 2, k);
        }
        x.tell(2, 0, 1, 49);
        x.tell(4, 0, 1, 30);
        x.tell(2, 0, 2, 50);
        due.is("free, but short by one", x.at(2, 0, 8), 0);
        due.is("short of another issue", x.at(4, 0, 8), 4);
        x.tell(2, 0, 1, 50);
        x.night(1);
        due.line(x, 0, 1, 2, 0, 4, 0, 4);
        due.is("one line", x.look(10), 1);
        due.is("short as it was", x.at(2, 0, 0), -1);
        x.tell(2, 0, 1, 49);
        x.night(1);
        // It delivers its one, and is not short any more when loans are sought; one is free no more.
        due.is("short no more", x.at(2, 0, 0), 0);
        due.is("none free", x.at(2, 0, 8), 0);
        x.tell(2, 0, 1, 48);
        due.is("one could be lent", x.at(2, 0, 8), 1);
    }

    // (d) "not that MEMBER"

    private static void lenderIsAnother() {
        RollingNets x = Make.noLag();
        x.set(2, 1);
        x.trade(0, 1, 0, 10, 100);
        x.tell(0, 0, 0, 50);
        x.tell(0, 0, 2, 50);
        x.night(3);
        due.is("could lend", x.at(0, 0, 8), 50);
        due.is("not to itself", x.look(10), 0);
        x.tell(2, 0, 0, 1);
        x.tell(2, 0, 2, 1);
        x.night(1);
        due.is("of another less", x.look(10), 1);
        due.line(x, 0, 3, 2, 0, 2, 0, 1);
    }

    /** What a MEMBER was told to lend stays when it is not there any more; a lender it is not, then. */
    private static void lenderIsThere() {
        for (int m = 3; m <= 12; m++) {
            RollingNets x = Make.noLag();
            x.set(0, 12);
            x.set(2, 1);
            for (int k = 2; k < 12; k++) {
                x.tell(k, 0, 0, k);
                x.tell(k, 0, 2, k);
            }
            x.set(0, m);
            x.trade(0, 1, 0, 1, 100);
            x.night(2);
            due.is("one line", x.look(10), 1);
            due.line(x, 0, 1, 2, 0, m - 1, 0, 1);
            due.is("cash of the last one there", x.cash(m - 1), 100);
        }
        RollingNets x = Make.noLag();
        x.set(2, 1);
        x.tell(5, 0, 0, 9);
        x.tell(5, 0, 2, 9);
        x.set(0, 5);
        x.trade(0, 1, 0, 9, 100);
        x.night(3);
        due.is("none there lends", x.look(10), 0);
        due.is("waits yet", x.at(0, 0, 0), 9);
    }

    // (d) "for each, as long as it has SHARES"

    private static void lentTillItHasAll() {
        for (int lot = 9; lot <= 32; lot++) {
            RollingNets x = Make.noLag();
            x.set(2, 1);
            x.trade(0, 1, 0, lot, 100);
            x.night(1);
            int left = lot;
            for (int k = 2; k <= 4; k++) {
                x.tell(k, 0, 0, 10);
                x.tell(k, 0, 2, 10);
            }
            x.night(1);
            for (int k = 2; k <= 4; k++) {
                int n = Math.min(10, left);
                due.is("lent by " + k + " of " + lot, x.at(k, 0, 5), n);
                left -= n;
            }
            due.is("waits yet", x.at(0, 0, 0), left);
            due.is("lots", x.at(0, 0, 6), left > 0 ? 1 : 0);
            due.is("lines", x.look(10), Math.min(3, (lot + 9) / 10));
        }
    }

    // (d) "LONG LOTS of DAY d less LOAN AGE or ahead, in the order of (c)"; section 1: "(in (d), too, its LONG
    // LOTS come last, and are served)"

    private static void lentToInOrder() {
        for (int lends = 1; lends <= 6; lends++) {
            RollingNets x = Make.noLag();
            x.set(2, 1);
            x.trade(0, 5, 0, 2, 100);
            x.trade(1, 5, 0, 2, 100);
            x.trade(2, 5, 0, 2, 100);
            x.night(1);
            x.tell(1, 0, 3, 1);
            x.suspend(0, true);
            x.tell(4, 0, 0, lends);
            x.tell(4, 0, 2, lends);
            x.night(1);
            due.is("greater rank first", x.at(1, 0, 1), Math.min(2, lends));
            due.is("then the other", x.at(2, 0, 1), Math.max(0, Math.min(2, lends - 2)));
            due.is("then the suspended", x.at(0, 0, 1), Math.max(0, Math.min(2, lends - 4)));
        }
    }

    // (e) "has SELLER FREE as many as are OPEN"

    private static void apartAllOrNone() {
        int[][] all = {{1, 0, 0}, {1, 1, 0}, {10, 9, 0}, {10, 10, 0}, {10, 11, 0}, {10, 13, 4}, {10, 14, 4}, {9999, 9998, 0},
            {9999, 9999, 0}};
        for (int[] one : all) {
            RollingNets x = Make.noLag();
            x.apart(0, 1, 0, one[0], 70);
            x.tell(1, 0, 0, one[1]);
            x.tell(1, 0, 1, one[2]);
            x.night(1);
            boolean is = one[1] - one[2] >= one[0];
            int n = is ? one[0] : 0;
            due.is("open, free " + (one[1] - one[2]), x.deal(0, 7), one[0] - n);
            due.is("stock of the buyer", x.at(0, 0, 1), n);
            due.is("stock of the seller", x.at(1, 0, 1), one[1] - n);
            due.is("cash of the buyer", x.cash(0), -70L * n);
            due.is("cash of the seller", x.cash(1), 70L * n);
            due.is("lines", x.look(10), is ? 1 : 0);
            due.is("no lots", x.at(0, 0, 6) + x.at(1, 0, 6), 0);
        }
    }

    // (e) "that are DUE on d or ahead and OPEN"

    private static void apartDue() {
        RollingNets x = new RollingNets();
        x.set(1, 1);
        x.apart(0, 1, 0, 10, 70);
        x.tell(1, 0, 0, 30);
        x.night(1);
        due.is("due on the day behind", x.deal(0, 7), 10);
        x.tell(1, 0, 0, 9);
        x.night(1);
        due.is("due, but not free", x.deal(0, 7), 10);
        x.night(5);
        x.tell(1, 0, 0, 30);
        x.night(1);
        due.is("due days ago", x.deal(0, 7), 0);
        x.night(1);
        due.is("once", x.at(1, 0, 1), 20);
        due.is("once", x.look(10), 1);
    }

    private static void apartByNumber() {
        RollingNets x = Make.noLag();
        x.apart(0, 1, 0, 10, 70);
        x.apart(2, 1, 0, 10, 70);
        x.apart(3, 1, 0, 9, 70);
        x.tell(1, 0, 0, 19);
        x.night(1);
        due.is("first", x.deal(0, 7), 0);
        due.is("second: one too few", x.deal(1, 7), 10);
        due.is("third: just as many", x.deal(2, 7), 0);
        due.is("stock", x.at(1, 0, 1), 0);
        due.line(x, 0, 0, 3, 0, 1, 0, 10);
        due.line(x, 1, 0, 3, 0, 1, 3, 9);
    }

    // (f) "OPEN NOTICES of it, in net and APART, that fall due on d or ahead, by number"

    private static void closedByNumber() {
        RollingNets x = Make.quick();
        x.apart(3, 4, 0, 6, 100);
        x.trade(0, 1, 0, 10, 100);
        x.trade(2, 1, 0, 10, 100);
        x.night(1);
        x.set(4, 2);
        due.is("give", x.give(2, 0, 10), 0);
        x.set(4, 1);
        due.is("call", x.call(0), 1);
        x.set(4, 0);
        due.is("give", x.give(0, 0, 10), 2);
        x.night(1);
        due.is("due", x.notice(2, 4), 0);
        due.is("not due", x.notice(1, 4), 1);
        x.night(1);
        due.is("due", x.notice(1, 4), 0);
        due.is("not due", x.notice(0, 4), 1);
        x.night(1);
        due.is("due", x.notice(0, 4), 0);
        due.line(x, 0, 1, 4, 0, 1, 0, 10);
        due.line(x, 1, 2, 4, 0, 4, 3, 6);
        due.line(x, 2, 3, 4, 0, 1, 2, 10);
        due.is("three lines", x.look(10), 3);
        // Of one night: by number, of both sorts.
        RollingNets y = Make.quick();
        y.apart(3, 4, 0, 6, 100);
        y.trade(0, 1, 0, 10, 100);
        y.trade(2, 1, 1, 10, 100);
        y.night(1);
        due.is("give", y.give(0, 0, 10), 0);
        due.is("give in the other issue", y.give(2, 1, 10), 1);
        due.is("call", y.call(0), 2);
        y.night(1);
        due.line(y, 0, 1, 4, 0, 1, 0, 10);
        due.line(y, 1, 1, 4, 0, 4, 3, 6);
        due.line(y, 2, 1, 4, 1, 1, 2, 10);
    }

    // (g) "each MEMBER's CASH is POSITION times (PRICE less MARKED) more; MARKED is PRICE."

    private static void marked() {
        int[][] all = {{100, 100}, {101, 100}, {99, 100}, {9999, 1}, {1, 9999}, {9999, 9999}, {1, 1}};
        for (int[] one : all) {
            RollingNets x = Make.noLag();
            x.price(0, one[1]);
            x.night(1);
            x.trade(0, 1, 0, 9999, one[1]);
            x.trade(2, 3, 0, 1, one[1]);
            x.night(1);
            due.is("marked", x.issue(0, 1), one[1]);
            due.is("cash", x.cash(0), 0);
            x.price(0, one[0]);
            x.night(1);
            long change = one[0] - one[1];
            due.is("marked", x.issue(0, 1), one[0]);
            due.is("long", x.cash(0), 9999 * change);
            due.is("short", x.cash(1), -9999 * change);
            due.is("long by one", x.cash(2), change);
            due.is("short by one", x.cash(3), -change);
            due.is("with nothing open", x.cash(4), 0);
            due.is("nought in all", x.look(12), 0);
        }
    }

    // "ISSUE by ISSUE, each (a) to (g)"

    /** What an earlier step takes the later has not, and what it brings the later has. */
    private static void stepByStep() {
        // (a), then (b): what is netted tonight is delivered tonight; what is netted away is not.
        RollingNets x = Make.noLag();
        x.tell(1, 0, 0, 10);
        x.trade(0, 1, 0, 10, 100);
        x.trade(1, 0, 0, 4, 100);
        x.night(1);
        due.line(x, 0, 0, 0, 0, 1, -1, 6);
        // (b), (c), then (d): what is allotted needs no loan.
        x = Make.noLag();
        x.set(2, 1);
        x.trade(0, 1, 0, 10, 100);
        x.tell(2, 0, 0, 10);
        x.tell(2, 0, 2, 10);
        x.night(1);
        x.tell(1, 0, 0, 7);
        x.night(1);
        due.is("lent", x.at(2, 0, 5), 3);
        // (b), then (e): what is delivered can't be passed on apart.
        x = Make.noLag();
        x.trade(0, 1, 0, 1, 100);
        x.apart(2, 1, 0, 10, 100);
        x.tell(1, 0, 0, 10);
        x.night(1);
        due.is("one of ten was delivered", x.deal(1, 7), 10);
        // (c), then (e): what was allotted can.
        x = Make.noLag();
        x.trade(0, 1, 0, 10, 100);
        x.apart(2, 0, 0, 10, 100);
        x.tell(1, 0, 0, 10);
        x.night(1);
        due.is("passed on", x.deal(1, 7), 0);
        due.is("passed on", x.at(2, 0, 1), 10);
        // (d), then (e): what was lent can't be passed on by the lender; by the borrower it can.
        x = Make.noLag();
        x.set(2, 1);
        x.trade(0, 1, 0, 1, 100);
        x.night(1);
        x.apart(3, 2, 0, 10, 100);
        x.apart(4, 0, 0, 1, 100);
        x.tell(2, 0, 0, 10);
        x.tell(2, 0, 2, 10);
        x.night(1);
        due.is("one of ten was lent", x.deal(1, 7), 10);
        due.is("it is passed on", x.deal(2, 7), 0);
        // (e), then (f): what was passed on is not bought in; what is bought in tonight is passed on tomorrow.
        x = Make.quick();
        x.apart(0, 1, 0, 10, 100);
        x.apart(2, 3, 0, 10, 100);
        x.apart(4, 2, 0, 10, 100);
        x.night(1);
        due.is("call", x.call(0), 0);
        due.is("call", x.call(1), 1);
        x.tell(1, 0, 0, 10);
        x.night(1);
        due.is("passed on", x.notice(0, 6), 0);
        due.is("bought in", x.notice(1, 6), 10);
        due.is("not passed on yet", x.deal(2, 7), 10);
        x.night(1);
        due.is("passed on", x.deal(2, 7), 0);
        // (f), then what is behind (g): who was bought in fails not.
        x = Make.quick();
        x.set(6, 100);
        x.trade(0, 1, 0, 10, 100);
        x.night(1);
        x.give(0, 0, 10);
        x.dividend(0, 1);
        x.night(1);
        due.is("fails", x.at(1, 0, 9), 1);
        due.is("the dividend is on stock now", x.look(11), 10 + 1100 - 10);
        due.is("the dividend is on stock now", x.cash(0), -1000 + 10);
        due.is("owes nothing", x.cash(1), -10 + 1000 - 1100);
    }

    private static void issueByIssue() {
        RollingNets x = Make.quick();
        x.set(2, 1);
        for (int issue = 5; issue >= 0; issue--) {
            x.trade(0, 1, issue, 10, 100);
            x.apart(2, 3, issue, 5, 100);
        }
        x.night(1);
        for (int issue = 5; issue >= 0; issue--) {
            x.give(0, issue, 2);
            x.tell(1, issue, 0, 1);
            x.tell(3, issue, 0, 5);
            x.tell(4, issue, 0, 3);
            x.tell(4, issue, 2, 3);
        }
        x.night(1);
        for (int issue = 0; issue < 6; issue++) {
            due.line(x, 5 * issue, 1, 0, issue, 1, -1, 1);
            due.line(x, 5 * issue + 1, 1, 1, issue, -1, 0, 1);
            due.line(x, 5 * issue + 2, 1, 2, issue, 4, 0, 3);
            due.line(x, 5 * issue + 3, 1, 3, issue, 3, 2, 5);
            // Of the two that were assigned one was delivered.
            due.line(x, 5 * issue + 4, 1, 4, issue, 1, 0, 1);
        }
        due.is("lines", x.look(10), 30);
    }
}
