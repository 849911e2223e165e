/** Boundary cases of promises 10 to 14, sentence by sentence, with the terms of part 3. */
public final class EdgeNetTest {
    private static final int FIRST = 1152000;
    private static final int LAST = 1583999;
    private static final String LIST_OF_300 = "long 8.0.0-15.?.?;seat 3;";
    private static final String LIST_OF_301 = "long 8.0.0.?.?;moon 1-25;";

    public static void main(String[] args) {
        distanceNumbers();
        distanceNoSuchStones();
        distanceBothAreOne();
        distanceDays();
        distancesAreTwelve();
        distanceFirstException();
        distanceRefusedChangesNothing();
        netOfOneTo300();
        netOthersAreNotAsked();
        netOfThirty();
        leastOfNone();
        leastOfAll();
        leastOfFarthest();
        leastAsDistancesCome();
        wrongEdgesOfK();
        wrongGreaterIsFirst();
        wrongOfLoops();
        settledOfNone();
        settledOfOneTo300();
        settledNotOfTheNet();
        settledNoSuchStone();
        settledDayEdgesOfK();
        settledDayRises();
        settledOfWrongOnes();
        eachAskedFirst();
        askedCallsChangeNothing();
        Check.end("EdgeNetTest");
    }

    private static StoneDates of(String... texts) {
        StoneDates x = Check.withTown(0);
        for (int i = 0; i < texts.length; i++) {
            Check.due("'" + texts[i] + "'", Check.stone(x, 0, texts[i]), i);
        }
        return x;
    }

    /** Sure stones, one day behind the other. */
    private static StoneDates sure(int many) {
        StoneDates x = Check.withTown(0);
        for (int i = 0; i < many; i++) {
            Check.stone(x, 0, "long 8.0.0." + i / 20 + "." + i % 20 + ";");
        }
        return x;
    }

    private static void wrongs(String what, StoneDates x, int... want) {
        Check.due(what + ": least", x.least(), want.length);
        for (int k = 0; k < want.length; k++) {
            Check.due(what + ": wrong(" + k + ")", x.wrong(k), want[k]);
        }
        Check.due(what + ": wrong(" + want.length + ")", x.wrong(want.length), -1);
    }

    private static void settledDays(String what, StoneDates x, int stone, int... want) {
        Check.due(what + ": settled(" + stone + ")", x.settled(stone), want.length);
        for (int k = 0; k < want.length; k++) {
            Check.due(what + ": settledDay(" + stone + ", " + k + ")", x.settledDay(stone, k), FIRST + want[k]);
        }
        Check.due(what + ": settledDay behind", x.settledDay(stone, want.length), -1);
        Check.due(what + ": settledDay ahead", x.settledDay(stone, -1), -1);
    }

    /** Promise 10: "A DISTANCE: its number" ("numbered from 0 on, 12 at most"). */
    private static void distanceNumbers() {
        StoneDates x = sure(2);
        for (int i = 0; i < 12; i++) {
            Check.due("distance number " + i, x.distance(i % 2, 1 - i % 2, i), i);
            Check.due("distances then", x.count(2), i + 1);
        }
    }

    /** Promise 10: "IndexOutOfBoundsException: no such STONES". */
    private static void distanceNoSuchStones() {
        StoneDates x = sure(2);
        StoneDates full = sure(30);
        int[] none = {-1, 30, Integer.MIN_VALUE, Integer.MAX_VALUE};
        for (int stone : none) {
            Check.refused("distance(" + stone + ", 0, 1)", Check.INDEX, () -> x.distance(stone, 0, 1));
            Check.refused("distance(0, " + stone + ", 1)", Check.INDEX, () -> x.distance(0, stone, 1));
            Check.refused("distance from " + stone + " of 30", Check.INDEX, () -> full.distance(stone, 29, 1));
            Check.refused("distance to " + stone + " of 30", Check.INDEX, () -> full.distance(29, stone, 1));
        }
        Check.refused("from 2 of 2", Check.INDEX, () -> x.distance(2, 0, 1));
        Check.refused("to 2 of 2", Check.INDEX, () -> x.distance(0, 2, 1));
        Check.refused("from 2 to 2 of 2", Check.INDEX, () -> x.distance(2, 2, 1));
        Check.due("from 0 to 1", x.distance(0, 1, 1), 0);
        Check.due("from 29 to 0", full.distance(29, 0, -29), 0);
        Check.due("from 0 to 29", full.distance(0, 29, 29), 1);
        Check.due("both right", full.least(), 0);
    }

    /** Promise 10: "IllegalArgumentException: both are one". */
    private static void distanceBothAreOne() {
        StoneDates x = sure(30);
        int[] ones = {0, 1, 29};
        for (int stone : ones) {
            Check.refused("of " + stone + " to itself", Check.ARGUMENT, () -> x.distance(stone, stone, 0));
            Check.refused("of " + stone + " to itself, 1", Check.ARGUMENT, () -> x.distance(stone, stone, 1));
        }
        Check.due("none", x.count(2), 0);
    }

    /** Promise 10: "or the days" ("-500,000 to 500,000"). */
    private static void distanceDays() {
        StoneDates x = sure(2);
        int[] none = {-500001, 500001, Integer.MIN_VALUE, Integer.MAX_VALUE};
        for (int days : none) {
            Check.refused("distance(0, 1, " + days + ")", Check.ARGUMENT, () -> x.distance(0, 1, days));
        }
        int[] taken = {-500000, 500000, -499999, 499999, 0};
        for (int i = 0; i < taken.length; i++) {
            Check.due("distance(0, 1, " + taken[i] + ")", x.distance(0, 1, taken[i]), i);
        }
    }

    private static StoneDates twelve() {
        StoneDates x = sure(3);
        for (int i = 0; i < 12; i++) {
            x.distance(i % 2, 2, i % 5);
        }
        return x;
    }

    /** Promise 10: "IllegalStateException: there are 12." */
    private static void distancesAreTwelve() {
        StoneDates x = twelve();
        Check.refused("a 13th", Check.STATE, () -> x.distance(0, 1, 1));
        Check.refused("a 13th, farthest", Check.STATE, () -> x.distance(0, 1, 500000));
        Check.refused("a 13th, farthest back", Check.STATE, () -> x.distance(1, 0, -500000));
        Check.due("twelve", x.count(2), 12);
    }

    /** The exceptions in the order in which the head and the promise name them. */
    private static void distanceFirstException() {
        StoneDates x = twelve();
        Check.refused("stone, days and 12", Check.INDEX, () -> x.distance(3, 0, 500001));
        Check.refused("stone, one and 12", Check.INDEX, () -> x.distance(3, 3, 0));
        Check.refused("stone and 12", Check.INDEX, () -> x.distance(0, -1, 0));
        Check.refused("one and 12", Check.ARGUMENT, () -> x.distance(2, 2, 0));
        Check.refused("days and 12", Check.ARGUMENT, () -> x.distance(0, 1, -500001));
        Check.refused("stone and days", Check.INDEX, () -> sure(2).distance(0, 2, 500001));
        Check.refused("one and days", Check.ARGUMENT, () -> sure(2).distance(0, 0, 500001));
    }

    private static StoneDates withDistance() {
        StoneDates x = sure(2);
        x.distance(0, 1, 1);
        return x;
    }

    private static void distanceRefusedChangesNothing() {
        Answers.changesNothing("distances refused", EdgeNetTest::withDistance, x -> {
            Check.due("asked ahead of it", x.least(), 0);
            Check.refused("distance(0, 2, 1)", Check.INDEX, () -> x.distance(0, 2, 1));
            Check.refused("distance(-1, 0, 1)", Check.INDEX, () -> x.distance(-1, 0, 1));
            Check.refused("distance(1, 1, 1)", Check.ARGUMENT, () -> x.distance(1, 1, 1));
            Check.refused("distance(0, 1, 500001)", Check.ARGUMENT, () -> x.distance(0, 1, 500001));
            Check.refused("distance(0, 1, -500001)", Check.ARGUMENT, () -> x.distance(0, 1, -500001));
        });
        Answers.changesNothing("a 13th distance", EdgeNetTest::twelve,
                x -> Check.refused("a 13th", Check.STATE, () -> x.distance(1, 0, 7)));
    }

    /** "NET: STONES with 1 to 300 DAYS in their LISTS": not 0, not 301. */
    private static void netOfOneTo300() {
        StoneDates x = of("lord 0;", "long 8.0.0.0.0;", LIST_OF_300, LIST_OF_301, "");
        int[] many = {0, 1, 300, 301, 432000};
        int[] settled = {-1, 1, 300, -1, -1};
        for (int stone = 0; stone < many.length; stone++) {
            Check.due("many(" + stone + ")", x.many(stone), many[stone]);
            Check.due("settled(" + stone + ")", x.settled(stone), settled[stone]);
        }
        Check.due("of the net", x.count(6), 2);
    }

    /** "and the DISTANCES between these (others are not asked)": they keep their numbers. */
    private static void netOthersAreNotAsked() {
        StoneDates x = of("lord 0;", "long 8.0.0.0.0;", LIST_OF_300, LIST_OF_301, "long 8.0.0.0.5;");
        Check.due("none to 1", x.distance(0, 1, 7), 0);
        Check.due("1 to none", x.distance(1, 0, 7), 1);
        Check.due("301 to 1", x.distance(3, 1, 7), 2);
        Check.due("1 to 301", x.distance(1, 3, 7), 3);
        Check.due("none to 301", x.distance(0, 3, 7), 4);
        wrongs("not one is asked", x);
        Check.due("one that is asked", x.distance(1, 4, 6), 5);
        wrongs("one is asked", x, 5);
        Check.due("300 is asked", x.distance(1, 2, 1), 6);
        wrongs("300 is asked", x, 5, 6);
        Check.due("300 is asked", x.distance(1, 2, 0), 7);
        wrongs("the first of 300", x, 5, 6);
        settledDays("the first of 300", x, 2, 0);
        Check.due("a last one of 300", x.distance(2, 1, -5755), 8);
        wrongs("the later one of two", x, 5, 6, 8);
        Check.due("a last one of 300 again", x.distance(1, 2, 5755), 9);
        wrongs("two against one", x, 5, 6, 7);
        settledDays("the last of 300", x, 2, 5755);
    }

    /** A net of 30 stones. */
    private static void netOfThirty() {
        StoneDates x = sure(30);
        Check.due("thirty of the net", x.count(6), 30);
        for (int i = 0; i < 12; i++) {
            x.distance(i, 29 - i, 29 - 2 * i + i / 11);
        }
        wrongs("thirty", x, 11);
        settledDays("thirty, the last one", x, 29, 29);
    }

    /** Promise 11: "LEAST", without stones, without distances, and without wrong ones. */
    private static void leastOfNone() {
        wrongs("nothing at all", new StoneDates());
        wrongs("no distances", sure(30));
        StoneDates x = of(LIST_OF_300, LIST_OF_300);
        x.distance(0, 1, 0);
        wrongs("a right one", x);
        Check.due("all its days", x.settled(0), 300);
        x.distance(1, 0, 0);
        x.distance(0, 1, 0);
        wrongs("three that are alike", x);
        Check.due("all its days yet", x.settled(1), 300);
    }

    /** Promise 11: all twelve are WRONG in any choice. */
    private static void leastOfAll() {
        StoneDates x = sure(2);
        for (int i = 0; i < 12; i++) {
            x.distance(0, 1, i + 2);
        }
        wrongs("all twelve", x, 0, 1, 2, 3, 4, 5, 6, 7, 8, 9, 10, 11);
        settledDays("all twelve", x, 0, 0);
        StoneDates y = of("long 8.0.0.0.?;", "long 8.0.0.0.?;");
        for (int i = 0; i < 12; i++) {
            y.distance(0, 1, 20 + i);
        }
        Check.due("all twelve of lists", y.least(), 12);
        Check.due("any day will do", y.settled(0), 20);
        Check.due("of the other one too", y.settled(1), 20);
    }

    /** From the first DAY to the last one there are 431,999 days. */
    private static void leastOfFarthest() {
        StoneDates x = of("long 8.0.0.0.0;", "long 10.19.19.17.19;");
        x.distance(0, 1, 431999);
        x.distance(1, 0, -431999);
        wrongs("the farthest that can be", x);
        x.distance(0, 1, 432000);
        x.distance(1, 0, 431999);
        x.distance(0, 1, 500000);
        x.distance(1, 0, -500000);
        wrongs("what can't be", x, 2, 3, 4, 5);
        Check.due("the last day", x.settledDay(1, 0), LAST);
    }

    /** Promise 11 once more behind each new distance and stone. */
    private static void leastAsDistancesCome() {
        StoneDates x = sure(2);
        Check.due("none", x.least(), 0);
        x.distance(0, 1, 2);
        Check.due("one", x.least(), 1);
        x.distance(0, 1, 1);
        Check.due("one of two", x.least(), 1);
        Check.stone(x, 0, "long 8.0.0.0.9;");
        Check.due("with a stone", x.least(), 1);
        Check.due("that stone's days", x.settled(2), 1);
        x.distance(2, 0, -9);
        Check.due("one of three", x.least(), 1);
        x.distance(2, 1, -9);
        wrongs("two of four", x, 0, 3);
    }

    /** Promise 12: "The k-th DISTANCE that is WRONG in the BEST choices, rising; NONE without." */
    private static void wrongEdgesOfK() {
        int[] none = {-1, -2, Integer.MIN_VALUE, Integer.MAX_VALUE, 12, 13, 32};
        StoneDates empty = new StoneDates();
        StoneDates some = twelve();
        for (int k : none) {
            Check.due("of none: wrong(" + k + ")", empty.wrong(k), -1);
            Check.due("of some: wrong(" + k + ")", some.wrong(k), -1);
        }
        Check.due("of none: wrong(0)", empty.wrong(0), -1);
        // Stone 2 is two days behind stone 0 (distance 2 says so) and one behind stone 1 (1 and 11 do).
        wrongs("of twelve", some, 0, 3, 4, 5, 6, 7, 8, 9, 10);
    }

    /** "(by the first one that is unlike: the greater is first)" */
    private static void wrongGreaterIsFirst() {
        StoneDates two = of("long 8.0.0.0.?;", "long 8.0.0.0.?;");
        two.distance(0, 1, 4);
        two.distance(0, 1, 5);
        wrongs("one of two", two, 1);
        StoneDates four = of("long 8.0.0.0.?;", "long 8.0.0.0.?;");
        four.distance(0, 1, 4);
        four.distance(0, 1, 5);
        four.distance(0, 1, 5);
        four.distance(0, 1, 4);
        wrongs("the first ones are unlike: 1 is greater than 0", four, 1, 2);
        StoneDates apart = of("long 8.0.0.0.?;", "long 8.0.0.0.?;", "long 8.0.0.0.?;", "long 8.0.0.0.?;");
        apart.distance(0, 1, 4);
        apart.distance(2, 3, 1);
        apart.distance(2, 3, 2);
        apart.distance(0, 1, 5);
        wrongs("the second ones too", apart, 2, 3);
        StoneDates loop = of("long 8.0.0.0.?;", "long 8.0.0.0.?;", "long 8.0.0.0.?;");
        loop.distance(0, 1, 1);
        loop.distance(1, 2, 1);
        loop.distance(0, 2, 3);
        wrongs("the last of a loop", loop, 2);
        Check.due("its days", loop.settled(0), 18);
    }

    /** A loop of twelve that closes, and one that is a day too long. */
    private static void wrongOfLoops() {
        for (int more = -1; more <= 1; more++) {
            String[] texts = new String[12];
            java.util.Arrays.fill(texts, "long 8.0.0.0-14.?;");
            StoneDates x = of(texts);
            for (int i = 0; i < 11; i++) {
                x.distance(i, i + 1, 27);
            }
            x.distance(11, 0, -297 + more);
            if (more == 0) {
                wrongs("a loop of twelve", x);
            } else {
                wrongs("a loop of twelve, more by " + more, x, 11);
            }
            Check.due("its first stone's days", x.settled(0), 3);
            Check.due("its last stone's first", x.settledDay(11, 0), FIRST + 297);
            Check.due("its last stone's last", x.settledDay(11, 2), FIRST + 299);
        }
    }

    /** Promise 13, without distances: each DAY is in a choice that is BEST. */
    private static void settledOfNone() {
        StoneDates x = of("long 8.0.0.0.3/5/9;");
        settledDays("alone", x, 0, 3, 5, 9);
    }

    /** Promise 13: "How many SETTLED days a STONE has", from 1 to 300. */
    private static void settledOfOneTo300() {
        StoneDates x = of("long 8.0.0.0-14.?;", "long 8.0.0.0-14.?;");
        Check.due("300 of 300", x.settled(0), 300);
        x.distance(0, 1, 299);
        settledDays("one of 300", x, 0, 0);
        settledDays("one of 300", x, 1, 299);
        StoneDates y = of("long 8.0.0.0-14.?;", "long 8.0.0.0-14.?;");
        y.distance(0, 1, 300);
        wrongs("none of 300", y, 0);
        Check.due("then all", y.settled(0), 300);
        Check.due("then all", y.settled(1), 300);
    }

    /** Promise 13: "NONE: it is not of the NET"; promise 14: "NONE without". */
    private static void settledNotOfTheNet() {
        StoneDates x = of("lord 0;", LIST_OF_301, "");
        int[] some = {-1, 0, 1, 299, 300, Integer.MIN_VALUE, Integer.MAX_VALUE};
        for (int stone = 0; stone < 3; stone++) {
            Check.due("settled(" + stone + ")", x.settled(stone), -1);
            for (int k : some) {
                Check.due("settledDay(" + stone + ", " + k + ")", x.settledDay(stone, k), -1);
            }
        }
    }

    /** Promises 13 and 14: no such STONE. */
    private static void settledNoSuchStone() {
        StoneDates x = sure(2);
        StoneDates full = sure(30);
        int[] none = {-1, 30, Integer.MIN_VALUE, Integer.MAX_VALUE};
        for (int stone : none) {
            Check.refused("settled(" + stone + ")", Check.INDEX, () -> x.settled(stone));
            Check.refused("settledDay(" + stone + ", 0)", Check.INDEX, () -> x.settledDay(stone, 0));
            Check.refused("settledDay(" + stone + ", -1)", Check.INDEX, () -> x.settledDay(stone, -1));
            Check.refused("settled(" + stone + ") of 30", Check.INDEX, () -> full.settled(stone));
            Check.refused("settledDay(" + stone + ", 0) of 30", Check.INDEX, () -> full.settledDay(stone, 0));
        }
        Check.refused("settled(2) of two", Check.INDEX, () -> x.settled(2));
        Check.refused("settledDay(2, 0) of two", Check.INDEX, () -> x.settledDay(2, 0));
        Check.due("settled(29) of 30", full.settled(29), 1);
        Check.due("settledDay(29, 0) of 30", full.settledDay(29, 0), FIRST + 29);
    }

    /** Promise 14: "The k-th of these .. NONE without." */
    private static void settledDayEdgesOfK() {
        StoneDates x = of(LIST_OF_300, "long 8.0.0.0.0;");
        int[] none = {-1, 300, 301, Integer.MIN_VALUE, Integer.MAX_VALUE};
        for (int k : none) {
            Check.due("settledDay(0, " + k + ") of 300", x.settledDay(0, k), -1);
            Check.due("settledDay(1, " + k + ") of one", x.settledDay(1, k), -1);
        }
        Check.due("settledDay(0, 0) of 300", x.settledDay(0, 0), FIRST);
        Check.due("settledDay(0, 299) of 300", x.settledDay(0, 299), 1157755);
        Check.due("settledDay(1, 0) of one", x.settledDay(1, 0), FIRST);
        Check.due("settledDay(1, 1) of one", x.settledDay(1, 1), -1);
    }

    /** Promise 14: "rising", by way of stones on both sides. */
    private static void settledDayRises() {
        StoneDates x = of("long 8.0.0.0.9/1/5;", "long 8.0.0.0.0-19;", "long 8.0.0.0.4/8/12-13;");
        x.distance(1, 0, -2);
        x.distance(2, 1, -1);
        settledDays("in between", x, 1, 3, 7, 11);
        settledDays("below", x, 0, 1, 5, 9);
        settledDays("above", x, 2, 4, 8, 12);
    }

    /** SETTLED days of stones whose DISTANCES are wrong: those of BEST choices alone. */
    private static void settledOfWrongOnes() {
        StoneDates x = of("long 8.0.0.0.0/1;", "long 8.0.0.0.10/12;");
        x.distance(0, 1, 9);
        x.distance(0, 1, 12);
        wrongs("either", x, 1);
        settledDays("the first is right", x, 0, 1);
        settledDays("the first is right", x, 1, 10);
        x.distance(1, 0, -12);
        wrongs("two against one", x, 0);
        settledDays("the others are right", x, 0, 0);
        settledDays("the others are right", x, 1, 12);
    }

    private static StoneDates twoAgainstOne() {
        StoneDates x = of("long 8.0.0.0.0-5;", "long 8.0.0.0.9;");
        x.distance(0, 1, 8);
        x.distance(0, 1, 7);
        x.distance(1, 0, -7);
        return x;
    }

    /** Promises 11 to 14: each answers of all the distances, though no other was asked before. */
    private static void eachAskedFirst() {
        Check.due("least first", twoAgainstOne().least(), 1);
        Check.due("wrong first", twoAgainstOne().wrong(0), 0);
        Check.due("settled first", twoAgainstOne().settled(0), 1);
        Check.due("settledDay first", twoAgainstOne().settledDay(0, 0), FIRST + 2);
        for (int how = 0; how < 4; how++) {
            StoneDates x = twoAgainstOne();
            x.least();
            x.distance(0, 1, 6);
            x.distance(0, 1, 6);
            x.distance(0, 1, 6);
            long got = how == 0 ? x.least() : how == 1 ? x.wrong(2) : how == 2 ? x.settled(0) : x.settledDay(0, 0);
            long want = how == 0 ? 3 : how == 1 ? 2 : how == 2 ? 1 : FIRST + 3;
            Check.due("asked again, " + how, got, want);
        }
    }

    /** Asking, also for what is not there, changes nothing. */
    private static void askedCallsChangeNothing() {
        Answers.changesNothing("asking a net", EdgeNetTest::twelve, x -> {
            x.least();
            x.wrong(-1);
            x.wrong(12);
            x.settledDay(0, 300);
            Check.refused("settled(3)", Check.INDEX, () -> x.settled(3));
            Check.refused("settledDay(-1, 0)", Check.INDEX, () -> x.settledDay(-1, 0));
            x.least();
        });
    }
}
