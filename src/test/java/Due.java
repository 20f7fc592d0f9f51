/** Compares answers with those that are due, and tells how many were not. */
final class Due {
    private int wrong = 0;
    private int asked = 0;

    void is(String call, long got, long want) {
        asked++;
        if (got != want) {
            wrong++;
            System.out.println(call + " answered " + got + ", due is " + want);
        }
    }

    void is(String call, boolean got, boolean want) {
        is(call, got ? 1L : 0L, want ? 1L : 0L);
    }

    /** Line i of THE BOOK: DAY, what, ISSUE, FROM, TO, SHARES; as many of them as are told. */
    void line(RollingNets x, int i, int... want) {
        for (int what = 0; what < want.length; what++) {
            is("book(" + i + ", " + what + ")", x.book(i, what), want[what]);
        }
    }

    /** All LOTS of a MEMBER and an ISSUE, each by its DAY and its SHARES. */
    void lots(RollingNets x, int member, int issue, int... want) {
        String of = "(" + member + ", " + issue + ", ";
        is("at" + of + "6)", x.at(member, issue, 6), want.length / 2);
        int sum = 0;
        for (int i = 0; i < want.length / 2; i++) {
            is("lot" + of + i + ", 0)", x.lot(member, issue, i, 0), want[2 * i]);
            is("lot" + of + i + ", 1)", x.lot(member, issue, i, 1), want[2 * i + 1]);
            sum += want[2 * i + 1];
        }
        is("at" + of + "0)", x.at(member, issue, 0), sum);
        is("no more: lot" + of + want.length / 2 + ", 0)", x.lot(member, issue, want.length / 2, 0), -1);
    }

    /** NOTICE i: what 0 to 6, then how many are ASSIGNED to MEMBER 0, 1 ..; as many of them as are told. */
    void notice(RollingNets x, int i, int... want) {
        for (int k = 0; k < want.length; k++) {
            int what = k < 7 ? k : k + 3;
            is("notice(" + i + ", " + what + ")", x.notice(i, what), want[k]);
        }
    }

    /** Prints the sum and ends the test: exit code 1 if an answer was wrong. */
    void end() {
        System.out.println(asked + " answers, " + wrong + " wrong");
        if (wrong != 0 || asked == 0) {
            System.exit(1);
        }
    }
}
