/** Boundary cases of promises 15 to 18, sentence by sentence, with the terms of part 4. */
public final class EdgeSkyTest {
    private static final int FIRST = 1152000;
    private static final int LAST = 1583999;

    public static void main(String[] args) {
        eclipseCounts();
        eclipseNoneSuch();
        eclipseWasTold();
        eclipsesAreForty();
        eclipseRefusedChangesNothing();
        namesWhatWasTold();
        namesNotSure();
        namesNoSuchStone();
        namesRefusedChangesNothing();
        namesOfThirty();
        startNearness();
        startWithoutEclipse();
        startWithoutStone();
        startFirstException();
        startRefusedChangesNothing();
        startBelowZero();
        startGreatest();
        startWithinNearness();
        startOfMost();
        startOfLeastSum();
        startOfLeast();
        startNearestEclipse();
        agreesOfOneAndThirty();
        agreesAsThingsChange();
        Check.end("EdgeSkyTest");
    }

    private static StoneDates sure(int... days) {
        StoneDates x = Check.withTown(0);
        for (int day : days) {
            Check.stone(x, 0, "long " + day / 144000 + "." + day / 7200 % 20 + "." + day / 360 % 20
                    + "." + day / 20 % 18 + "." + day % 20 + ";");
        }
        return x;
    }

    /** Sure stones that name an eclipse all. */
    private static StoneDates naming(int... days) {
        StoneDates x = sure(days);
        for (int i = 0; i < days.length; i++) {
            x.names(i, true);
        }
        return x;
    }

    private static void best(String what, StoneDates x, int near, int start, int agrees) {
        Check.due(what + ": start(" + near + ")", x.start(near), start);
        Check.due(what + ": agrees(" + near + ")", x.agrees(near), agrees);
    }

    private static StoneDates fortyEclipses() {
        StoneDates x = naming(FIRST, FIRST + 100);
        for (int i = 0; i < 40; i++) {
            x.eclipse(i * 17 % 40 * 250000);
        }
        return x;
    }

    /** Promise 15: "An ECLIPSE: how many there are". */
    private static void eclipseCounts() {
        StoneDates x = new StoneDates();
        for (int i = 1; i <= 40; i++) {
            Check.due("eclipse " + i, x.eclipse(10000000 - i * 250000), i);
            Check.due("eclipses then", x.count(3), i);
        }
    }

    /** Promise 15: "IllegalArgumentException: it is none such" ("0 to 10,000,000"). */
    private static void eclipseNoneSuch() {
        StoneDates x = new StoneDates();
        int[] none = {-1, 10000001, Integer.MIN_VALUE, Integer.MAX_VALUE};
        for (int day : none) {
            Check.refused("eclipse(" + day + ")", Check.ARGUMENT, () -> x.eclipse(day));
        }
        Check.due("none", x.count(3), 0);
        Check.due("eclipse(0)", x.eclipse(0), 1);
        Check.due("eclipse(10000000)", x.eclipse(10000000), 2);
        Check.due("eclipse(1)", x.eclipse(1), 3);
        Check.due("eclipse(9999999)", x.eclipse(9999999), 4);
    }

    /** Promise 15: "-1: it was told". */
    private static void eclipseWasTold() {
        StoneDates x = new StoneDates();
        int[] days = {500, 0, 10000000, 499, 501};
        for (int i = 0; i < days.length; i++) {
            Check.due("eclipse(" + days[i] + ")", x.eclipse(days[i]), i + 1);
            for (int told = 0; told <= i; told++) {
                Check.due("eclipse(" + days[told] + ") again", x.eclipse(days[told]), -1);
            }
        }
        Check.due("five", x.count(3), 5);
    }

    /** Promise 15: "-2: there are 40 (the first of these)". */
    private static void eclipsesAreForty() {
        StoneDates x = fortyEclipses();
        Check.due("forty", x.count(3), 40);
        Check.due("a 41st, between two", x.eclipse(1), -2);
        Check.due("a 41st, above all", x.eclipse(10000000), -2);
        Check.due("told, and 40: the first", x.eclipse(0), -1);
        Check.due("told, and 40: the last", x.eclipse(9750000), -1);
        Check.refused("none such, and 40", Check.ARGUMENT, () -> x.eclipse(-1));
        Check.refused("none such, and 40", Check.ARGUMENT, () -> x.eclipse(10000001));
        Check.due("forty still", x.count(3), 40);
    }

    private static void eclipseRefusedChangesNothing() {
        Answers.changesNothing("an eclipse that is none such", () -> naming(FIRST), x -> {
            Check.refused("eclipse(-1)", Check.ARGUMENT, () -> x.eclipse(-1));
            Check.refused("eclipse(10000001)", Check.ARGUMENT, () -> x.eclipse(10000001));
        });
        Answers.changesNothing("an eclipse that was told", EdgeSkyTest::oneOfEach,
                x -> Check.due("eclipse(2000000)", x.eclipse(2000000), -1));
        Answers.changesNothing("a 41st eclipse", EdgeSkyTest::fortyEclipses, x -> {
            Check.due("a 41st", x.eclipse(77), -2);
            Check.due("one that was told", x.eclipse(250000), -1);
        });
    }

    private static StoneDates oneOfEach() {
        StoneDates x = sure(FIRST, FIRST + 5);
        x.names(0, true);
        x.eclipse(2000000);
        return x;
    }

    /** Promise 16: "A STONE names an eclipse, or not: what was told", false at first. */
    private static void namesWhatWasTold() {
        boolean[] told = {false, false, true, true, false, true, false, false};
        StoneDates x = sure(FIRST, LAST);
        boolean before = false;
        for (boolean is : told) {
            Check.due("names(0, " + is + ") behind " + before, x.names(0, is), before);
            Check.due("naming then", x.count(4), is ? 1 : 0);
            before = is;
        }
        Check.due("the other one was told nothing", x.names(1, true), false);
        Check.due("naming", x.count(4), 1);
    }

    /** Promise 16: "IllegalStateException: it is not SURE" ("It is SURE if there is one"). */
    private static void namesNotSure() {
        String[] texts = {"lord 0;", "long 8.0.0.0.0/1;", "long 8.0.0.0-14.?;", "", "long 8.0.0.0.0;"};
        StoneDates x = Check.withTown(0);
        for (String text : texts) {
            Check.stone(x, 0, text);
        }
        for (int stone = 0; stone < 4; stone++) {
            int s = stone;
            Check.refused("names(" + s + ", true)", Check.STATE, () -> x.names(s, true) ? 1 : 0);
            Check.refused("names(" + s + ", false)", Check.STATE, () -> x.names(s, false) ? 1 : 0);
        }
        Check.due("none names", x.count(4), 0);
        Check.due("of one day", x.names(4, true), false);
        // A net may leave one day of a list, but the list is as long as it was.
        x.distance(4, 1, 1);
        Check.due("settled by the net", x.settled(1), 1);
        Check.refused("and not sure", Check.STATE, () -> x.names(1, true) ? 1 : 0);
    }

    /** Promise 16: no such STONE. */
    private static void namesNoSuchStone() {
        StoneDates x = sure(FIRST);
        int[] none = {-1, 1, 29, 30, Integer.MIN_VALUE, Integer.MAX_VALUE};
        for (int stone : none) {
            Check.refused("names(" + stone + ", true)", Check.INDEX, () -> x.names(stone, true) ? 1 : 0);
            Check.refused("names(" + stone + ", false)", Check.INDEX, () -> x.names(stone, false) ? 1 : 0);
        }
        Check.due("none names", x.count(4), 0);
    }

    private static void namesRefusedChangesNothing() {
        Answers.Making making = () -> {
            StoneDates x = oneOfEach();
            Check.stone(x, 0, "lord 1;");
            return x;
        };
        Answers.changesNothing("names, refused", making, x -> {
            Check.refused("names(2, true)", Check.STATE, () -> x.names(2, true) ? 1 : 0);
            Check.refused("names(2, false)", Check.STATE, () -> x.names(2, false) ? 1 : 0);
            Check.refused("names(3, true)", Check.INDEX, () -> x.names(3, true) ? 1 : 0);
            Check.refused("names(-1, false)", Check.INDEX, () -> x.names(-1, false) ? 1 : 0);
        });
    }

    private static StoneDates thirty() {
        int[] days = new int[30];
        for (int i = 0; i < 30; i++) {
            days[i] = FIRST + i;
        }
        return sure(days);
    }

    /** All 30 stones name one, and none of them. */
    private static void namesOfThirty() {
        StoneDates x = thirty();
        for (int i = 0; i < 30; i++) {
            Check.due("names(" + i + ", true)", x.names(i, true), false);
            Check.due("naming", x.count(4), i + 1);
        }
        for (int i = 29; i >= 0; i--) {
            Check.due("names(" + i + ", false)", x.names(i, false), true);
            Check.due("naming", x.count(4), i);
        }
    }

    /** Promises 17 and 18: "IllegalArgumentException: nearness is not 0 to 1,000". */
    private static void startNearness() {
        StoneDates x = oneOfEach();
        int[] none = {-1, 1001, Integer.MIN_VALUE, Integer.MAX_VALUE};
        for (int near : none) {
            Check.refused("start(" + near + ")", Check.ARGUMENT, () -> x.start(near));
            Check.refused("agrees(" + near + ")", Check.ARGUMENT, () -> x.agrees(near));
        }
        int[] taken = {0, 1, 999, 1000};
        for (int near : taken) {
            best("one of each", x, near, 2000000 - FIRST, 1);
        }
    }

    /** Promises 17 and 18: "IllegalStateException: there is no ECLIPSE". */
    private static void startWithoutEclipse() {
        StoneDates x = naming(FIRST);
        Check.refused("no eclipse: start(0)", Check.STATE, () -> x.start(0));
        Check.refused("no eclipse: start(1000)", Check.STATE, () -> x.start(1000));
        Check.refused("no eclipse: agrees(0)", Check.STATE, () -> x.agrees(0));
        Check.refused("no eclipse: agrees(1000)", Check.STATE, () -> x.agrees(1000));
        x.eclipse(FIRST);
        best("then one", x, 0, 0, 1);
    }

    /** Promises 17 and 18: "or no STONE names one", also if one was told and taken back. */
    private static void startWithoutStone() {
        StoneDates x = sure(FIRST, FIRST + 1);
        x.eclipse(5);
        Check.refused("no stone: start(0)", Check.STATE, () -> x.start(0));
        Check.refused("no stone: agrees(1000)", Check.STATE, () -> x.agrees(1000));
        x.names(1, true);
        best("then one", x, 0, 4 - FIRST, 1);
        x.names(1, false);
        Check.refused("taken back: start(0)", Check.STATE, () -> x.start(0));
        Check.refused("taken back: agrees(0)", Check.STATE, () -> x.agrees(0));
        x.names(0, true);
        best("then the other", x, 0, 5 - FIRST, 1);
    }

    /** The exceptions in the order in which the head and the promise name them. */
    private static void startFirstException() {
        StoneDates x = new StoneDates();
        Check.refused("start(-1) of nothing", Check.ARGUMENT, () -> x.start(-1));
        Check.refused("start(1001) of nothing", Check.ARGUMENT, () -> x.start(1001));
        Check.refused("agrees(-1) of nothing", Check.ARGUMENT, () -> x.agrees(-1));
        Check.refused("agrees(1001) of nothing", Check.ARGUMENT, () -> x.agrees(1001));
    }

    private static void startRefusedChangesNothing() {
        Answers.changesNothing("start, refused", EdgeSkyTest::oneOfEach, x -> {
            x.start(3);
            Check.refused("start(-1)", Check.ARGUMENT, () -> x.start(-1));
            Check.refused("agrees(1001)", Check.ARGUMENT, () -> x.agrees(1001));
        });
        Answers.changesNothing("start of nothing", () -> sure(FIRST), x -> {
            Check.refused("start(0)", Check.STATE, () -> x.start(0));
            Check.refused("agrees(0)", Check.STATE, () -> x.agrees(0));
        });
    }

    /** Promise 17: "(it may be below 0)". */
    private static void startBelowZero() {
        StoneDates x = naming(LAST);
        x.eclipse(0);
        best("the last day at 0", x, 0, -LAST, 1);
        best("the last day at 0", x, 1000, -LAST, 1);
        StoneDates y = naming(FIRST);
        y.eclipse(FIRST - 1);
        best("one below 0", y, 1000, -1, 1);
        y.eclipse(FIRST + 1);
        best("below 0 ahead of above", y, 1000, -1, 1);
        y.eclipse(FIRST);
        best("below 0 ahead of 0", y, 1000, -1, 1);
        StoneDates z = naming(LAST, LAST - 1000, LAST - 2000);
        z.eclipse(0);
        best("around the middle one", z, 1000, -LAST + 1000, 3);
    }

    /** The last eclipse with the first DAY. */
    private static void startGreatest() {
        StoneDates x = naming(FIRST);
        x.eclipse(10000000);
        best("the greatest", x, 0, 10000000 - FIRST, 1);
        best("the greatest", x, 1000, 10000000 - FIRST, 1);
        StoneDates y = naming(FIRST, LAST);
        y.eclipse(10000000);
        best("the last day's is less", y, 0, 10000000 - LAST, 1);
        y.eclipse(10000000 - 431999);
        best("both at once", y, 0, 10000000 - LAST, 2);
        y.eclipse(0);
        best("both at once yet", y, 1000, 10000000 - LAST, 2);
    }

    /** "within a told nearness": as far as that agrees, one more does not. */
    private static void startWithinNearness() {
        int[] nears = {0, 1, 2, 7, 999, 1000};
        for (int near : nears) {
            StoneDates x = naming(FIRST, FIRST + 2 * near);
            x.eclipse(3000000);
            best("twice as far", x, near, 3000000 - FIRST - near, 2);
            StoneDates y = naming(FIRST, FIRST + 2 * near + 1);
            y.eclipse(3000000);
            best("one farther", y, near, 3000000 - FIRST - 2 * near - 1, 1);
            StoneDates z = naming(FIRST, FIRST + 5000);
            z.eclipse(3000000);
            z.eclipse(3005000 + near);
            best("eclipses farther apart", z, near, 3000000 - FIRST, 2);
            StoneDates w = naming(FIRST, FIRST + 5000);
            w.eclipse(3000000);
            w.eclipse(3005000 + 2 * near + 1);
            best("eclipses too far apart", w, near, 2995000 - FIRST, 1);
        }
    }

    /** "the one that agrees with the most such STONES", though it is farther and greater. */
    private static void startOfMost() {
        StoneDates x = naming(FIRST, FIRST + 50, FIRST + 60);
        x.eclipse(4000000);
        x.eclipse(4000014);
        best("two of three", x, 2, 4000002 - 50 - FIRST, 2);
        best("one of three", x, 1, 4000000 - 60 - FIRST, 1);
        x.eclipse(4000050);
        best("the first and the second", x, 1, 4000000 - FIRST, 2);
        x.names(0, false);
        best("the second and the third", x, 2, 4000002 - 50 - FIRST, 2);
    }

    /** "of these the one for which the sum .. is least". */
    private static void startOfLeastSum() {
        StoneDates x = naming(FIRST, FIRST + 4, FIRST + 10);
        x.eclipse(5000000);
        best("the middle one on it", x, 10, 5000000 - 4 - FIRST, 3);
        best("five ahead of it and five behind", x, 5, 5000000 - 5 - FIRST, 3);
        best("only two can: the two that are nearer", x, 4, 5000000 - 4 - FIRST, 2);
        StoneDates y = naming(FIRST, FIRST + 10);
        y.eclipse(5000000);
        y.eclipse(5000013);
        y.eclipse(6000000);
        y.eclipse(6000010);
        best("a greater start without any way off", y, 3, 6000000 - FIRST, 2);
        y.names(1, false);
        best("one stone, on the first", y, 3, 5000000 - FIRST, 1);
    }

    /** "of these the least". */
    private static void startOfLeast() {
        StoneDates x = naming(FIRST, FIRST + 10);
        x.eclipse(7000000);
        best("any between the two: the least", x, 10, 7000000 - 10 - FIRST, 2);
        x.eclipse(8000000);
        x.eclipse(100);
        best("of three alike the first", x, 10, 100 - 10 - FIRST, 2);
        best("of one alone the first", x, 0, 100 - 10 - FIRST, 1);
    }

    /** "the ECLIPSE nearest to it": in the middle of two it is as far from both. */
    private static void startNearestEclipse() {
        StoneDates x = naming(FIRST, FIRST + 5, FIRST + 10);
        x.eclipse(9000000);
        x.eclipse(9000010);
        best("in the middle", x, 5, 9000000 - FIRST, 3);
        best("a day ahead, nearer to the first", x, 4, 8999999 - FIRST, 3);
        best("not near enough", x, 2, 9000000 - FIRST, 2);
        StoneDates y = naming(FIRST, FIRST + 5, FIRST + 11);
        y.eclipse(9000000);
        y.eclipse(9000001);
        y.eclipse(9000011);
        best("eclipses side by side", y, 4, 9000000 - FIRST, 3);
        best("eclipses side by side", y, 2, 8999998 - FIRST, 3);
        best("eclipses side by side", y, 1, 9000000 - FIRST, 2);
    }

    /** Promise 18: "With how many STONES that one agrees", from 1 to 30. */
    private static void agreesOfOneAndThirty() {
        StoneDates x = thirty();
        x.eclipse(10000000);
        for (int i = 0; i < 30; i++) {
            x.names(i, true);
        }
        best("thirty, near 0", x, 0, 10000000 - 29 - FIRST, 1);
        best("thirty, near 14", x, 14, 10000000 - 15 - FIRST, 29);
        best("thirty, near 15", x, 15, 10000000 - 15 - FIRST, 30);
        best("thirty, near 1000", x, 1000, 10000000 - 15 - FIRST, 30);
        StoneDates same = sure();
        for (int i = 0; i < 30; i++) {
            Check.stone(same, 0, "long 8.0.0.0.0;");
            same.names(i, true);
        }
        same.eclipse(0);
        best("thirty of one day", same, 0, -FIRST, 30);
        StoneDates forty = fortyEclipses();
        best("forty eclipses", forty, 0, -100 - FIRST, 1);
        best("forty eclipses", forty, 1000, -100 - FIRST, 2);
    }

    /** The answer is that of what is told now, whichever of the two is asked first. */
    private static void agreesAsThingsChange() {
        Check.due("agrees first", fortyEclipses().agrees(1000), 2);
        Check.due("start first", fortyEclipses().start(1000), -100 - FIRST);
        StoneDates x = naming(FIRST, FIRST + 100);
        x.eclipse(1000);
        best("one eclipse", x, 0, 900 - FIRST, 1);
        x.eclipse(1100);
        best("two", x, 0, 1000 - FIRST, 2);
        Check.due("told", x.eclipse(1100), -1);
        best("two yet", x, 0, 1000 - FIRST, 2);
        x.names(1, false);
        best("one stone", x, 0, 1000 - FIRST, 1);
        x.names(1, true);
        x.names(0, false);
        best("the other stone", x, 0, 900 - FIRST, 1);
        Check.stone(x, 0, "long 8.0.0.0.1;");
        best("a stone that names none", x, 0, 900 - FIRST, 1);
        x.names(2, true);
        best("a stone that does", x, 1, 999 - FIRST, 2);
    }
}
