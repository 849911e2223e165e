/** Boundary cases of promise 19, and an object that is full and has had all its 512 calls. */
public final class EdgeCountTest {
    private static int calls = 0;

    public static void main(String[] args) {
        countOthers();
        countOfFull();
        countOfRefused();
        Check.end("EdgeCountTest");
    }

    /** Promise 19: "NONE for others." */
    private static void countOthers() {
        StoneDates x = Check.withTown(0);
        int[] others = {-1, 7, 8, Integer.MIN_VALUE, Integer.MAX_VALUE};
        for (int what : others) {
            Check.due("count(" + what + ")", x.count(what), -1);
        }
        Check.due("the first", x.count(0), 1);
        Check.due("the last", x.count(6), 0);
    }

    private static void counts(String when, StoneDates x, int... want) {
        for (int what = 0; what < want.length; what++) {
            Check.due(when + ": count(" + what + ")", x.count(what), want[what]);
        }
        calls += want.length;
    }

    /** Sure stones as many as there can be; a text of one feed each. */
    private static StoneDates full() {
        StoneDates x = new StoneDates();
        for (int i = 0; i < 10; i++) {
            x.town(i);
        }
        for (int i = 0; i < 30; i++) {
            Check.stone(x, i % 10, "long 8.0.0." + i / 20 + "." + i % 20 + ";");
            x.names(i, true);
        }
        for (int i = 0; i < 12; i++) {
            x.distance(i, i + 1, 1 + i / 11);
        }
        for (int i = 0; i < 40; i++) {
            x.eclipse(i * 7);
        }
        for (int i = 0; i < 10; i++) {
            x.feed(i, i, i, i, i);
        }
        calls = 10 + 3 * 30 + 12 + 40 + 10;
        return x;
    }

    /** "An object is used for at most 512 calls": the last of these answer as the first do. */
    private static void countOfFull() {
        StoneDates x = full();
        counts("full", x, 10, 30, 12, 40, 30, 200, 30);
        for (int near = 0; calls < 500; near++) {
            x.start(near);
            calls++;
        }
        Check.due("call 501", x.least(), 1);
        Check.due("call 502", x.wrong(0), 11);
        Check.due("call 503", x.settledDay(29, 0), 1152029);
        Check.due("call 504", x.agrees(3), 30);
        // Seven stones in a row have a sum of 12 in any case; so have the 28 from eclipse to eclipse,
        // and the two that are left have 1 at least: first where one comes ahead of the first eclipse.
        Check.due("call 505", x.start(3), -1 - 1152000);
        Check.due("call 506", x.eclipse(273), -1);
        Check.due("call 507", x.eclipse(1), -2);
        Check.due("call 508", x.feed(0, 0, 0, 0, 0), -1);
        Check.refused("call 509", Check.STATE, () -> x.stone(9, 200));
        Check.refused("call 510", Check.STATE, () -> x.town(0));
        Check.refused("call 511", Check.STATE, () -> x.distance(0, 29, 0));
        Check.due("call 512", x.names(29, false), true);
    }

    /** Calls that are refused are not counted. */
    private static void countOfRefused() {
        StoneDates x = full();
        Check.refused("an 11th town", Check.STATE, () -> x.town(0));
        Check.refused("a 31st stone", Check.STATE, () -> x.stone(0, 0));
        Check.refused("a 13th distance", Check.STATE, () -> x.distance(0, 1, 1));
        Check.due("a 41st eclipse", x.eclipse(1), -2);
        Check.due("an eclipse that was told", x.eclipse(7), -1);
        Check.due("told to name one again", x.names(0, true), true);
        Check.due("an 11th feed", x.feed(0, 0, 0, 0, 0), -1);
        counts("full and refused", x, 10, 30, 12, 40, 30, 200, 30);
        StoneDates y = Check.withTown(0);
        Check.due("a text that is none", Check.stone(y, 0, "lord"), -2 - 4);
        Check.refused("a town that is none", Check.ARGUMENT, () -> y.town(-1));
        Check.refused("an eclipse that is none", Check.ARGUMENT, () -> y.eclipse(-1));
        Check.refused("no stone names", Check.INDEX, () -> y.names(0, true) ? 1 : 0);
        counts("almost empty", y, 1, 0, 0, 0, 0, 0, 0);
    }
}
