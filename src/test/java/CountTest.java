/** Promise 19: what there is of each. */
public final class CountTest {
    public static void main(String[] args) {
        StoneDates x = new StoneDates();
        same(x, "new", 0, 0, 0, 0, 0, 0, 0);
        x.town(5);
        x.town(6);
        x.town(7);
        same(x, "towns", 3, 0, 0, 0, 0, 0, 0);
        Check.stone(x, 0, "long 8.0.0.0.0;");
        Check.stone(x, 1, "long 8.0.0.0.1;");
        Check.stone(x, 2, "lord 0;");
        Check.stone(x, 2, "");
        Check.stone(x, 2, "lord 1");
        same(x, "stones", 3, 4, 0, 0, 0, 0, 2);
        x.distance(0, 1, 5);
        x.distance(2, 3, 5);
        x.distance(0, 3, 5);
        same(x, "distances", 3, 4, 3, 0, 0, 0, 2);
        x.eclipse(4);
        x.eclipse(4);
        x.names(1, true);
        same(x, "eclipse", 3, 4, 3, 1, 1, 0, 2);
        x.feed(1, 2, 3, 4, 5);
        x.feed(1, 2, 3, 4, 5);
        same(x, "tape", 3, 4, 3, 1, 1, 40, 2);
        x.names(1, false);
        same(x, "taken back", 3, 4, 3, 1, 0, 40, 2);
        x.stone(0, 0);
        same(x, "tape empty", 3, 5, 3, 1, 0, 0, 2);
        int[] others = {-1, 7, 8, Integer.MIN_VALUE, Integer.MAX_VALUE};
        for (int what : others) {
            Check.due("count(" + what + ")", x.count(what), StoneDates.NONE);
        }
        Check.end("CountTest");
    }

    private static void same(StoneDates x, String when, int... want) {
        for (int what = 0; what < want.length; what++) {
            Check.due(when + ": count(" + what + ")", x.count(what), want[what]);
        }
    }
}
