/** Promises 1 to 4: a new object, and what is told. */
public final class ToldTest {
    private static final Due due = new Due();

    public static void main(String[] args) {
        newObject();
        due.end();
    }

    private static void newObject() {
        RollingNets x = new RollingNets();
        int[] first = {6, 2, 2, 3, 1, 10, 0};
        for (int what = 0; what < first.length; what++) {
            due.is("look(" + what + ")", x.look(what), first[what]);
        }
    }
}
