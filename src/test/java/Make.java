/** Objects as the tests want them, and what many tests do with one. */
final class Make {
    /** NONE - 999999, where NONE could be an answer. */
    static final int NOTHING = -1000000;

    private static final int[] FAR = {
        Integer.MIN_VALUE, Integer.MIN_VALUE + 1, -1000001, -1000, 1000001, Integer.MAX_VALUE - 1, Integer.MAX_VALUE,
    };

    private Make() {
    }

    /** What lies just beyond the bounds, on both sides, and what lies far beyond them. */
    static int[] beyond(int least, int most) {
        int[] all = new int[FAR.length + 4];
        all[0] = least - 1;
        all[1] = least - 2;
        all[2] = most + 1;
        all[3] = most + 2;
        System.arraycopy(FAR, 0, all, 4, FAR.length);
        for (int k = 0; k < all.length; k++) {
            // What is far from one sort of number may be in the bounds of another.
            all[k] = all[k] >= least && all[k] <= most ? most + 1 : all[k];
        }
        return all;
    }

    /** LAG 0: what is traded is due on the day itself. */
    static RollingNets noLag() {
        RollingNets x = new RollingNets();
        x.set(1, 0);
        return x;
    }

    static RollingNets onDay(int day) {
        RollingNets x = noLag();
        nights(x, day);
        return x;
    }

    /** More NIGHTS than one call can have. */
    static void nights(RollingNets x, int n) {
        for (int left = n; left > 0; left -= 20) {
            x.night(Math.min(20, left));
        }
    }

    /** BUY AGE 1, GRACE 0: who waits since yesterday can give a NOTICE, and it is CLOSED OUT in the next NIGHT. */
    static RollingNets quick() {
        RollingNets x = noLag();
        x.set(3, 1);
        x.set(4, 0);
        return x;
    }

    /** Puts a text on the TAPE, whatever was there; whether it has it then. */
    static boolean tape(RollingNets x, String text) {
        boolean is = x.end(0);
        int k = 0;
        while (k < text.length()) {
            int[] v = new int[5];
            for (int b = 0; b < 20; b++) {
                int sign = k + b < text.length() ? text.charAt(k + b) : '#';
                v[b / 4] = v[b / 4] << 8 | sign;
            }
            k += 20;
            is &= x.feed(v[0], v[1], v[2], v[3], v[4]) == k;
        }
        return is & x.end(text.length());
    }

    static String times(String line, int n) {
        StringBuilder text = new StringBuilder();
        for (int k = 0; k < n; k++) {
            text.append(line);
        }
        return text.toString();
    }
}
