/** Boundary cases of promises 7 to 9, sentence by sentence. */
public final class EdgeListTest {
    private static final int FIRST = 1152000;
    private static final int LAST = 1583999;
    private static final String LIST_OF_299 = "long 8.0.0-15.?.?;seat 2;";
    private static final String LIST_OF_300 = "long 8.0.0-15.?.?;seat 3;";
    private static final String LIST_OF_301 = "long 8.0.0.?.?;moon 1-25;";

    public static void main(String[] args) {
        manyOfNoneAndAll();
        manyOfEachValue();
        manyOfLongPlaces();
        manyOfBothEndsIn();
        manyOfTheTown();
        manyNoSuchStone();
        dayFirstAndLast();
        dayWithoutOne();
        dayAbove299();
        dayRises();
        dayNoSuchStone();
        fitsFirstAndLastDay();
        fitsAllButOne();
        fitsBehindTheList();
        fitsNoSuchStone();
        fitsNoSuchDay();
        refusedChangesNothing();
        Check.end("EdgeListTest");
    }

    private static StoneDates of(String text) {
        StoneDates x = Check.withTown(0);
        Check.due("'" + text + "'", Check.stone(x, 0, text), 0);
        return x;
    }

    /** Promise 7: "How many DAYS the LIST of a STONE has." */
    private static void manyOfNoneAndAll() {
        Check.stands("", 432000);
        Check.stands("lord 0;", 0);
        Check.stands("lord 1;lord 2;", 0);
        Check.stands("month 18;seat 5-19;", 0);
        Check.stands("month 18;seat 0-4;", 5915);
        Check.stands("long 8.0.0.0.0;", 1);
        Check.stands("long 10.19.19.17.19;", 1);
        Check.stands("long 8.0.0.0.0;number 9;name 19;seat 3;month 2;lord 9;moon 26;", 1);
        Check.stands("long 8.0.0.0.0;number 9;name 19;seat 3;month 2;lord 9;moon 27;", 0);
        Check.stands("long 10.19.19.17.19;number 5;name 18;seat 7;month 12;lord 8;moon 28;", 1);
        Check.stands("long 10.19.19.17.19;number 5;name 18;seat 7;month 12;lord 7;moon 28;", 0);
        Check.stands("long 8/10.0/19.0/19.0/17.0/19;", 32);
        Check.stands(LIST_OF_299, 299);
        Check.stands(LIST_OF_300, 300);
        Check.stands(LIST_OF_301, 301);
    }

    /** Values below the least and above the greatest of a sign, up to 99, hold of no DAY. */
    private static void manyOfEachValue() {
        String[] words = {"number", "name", "seat", "month", "lord", "moon"};
        int[][] counts = new int[words.length][100];
        for (int day = FIRST; day <= LAST; day++) {
            int place = (day + 348) % 365;
            counts[0][(day + 3) % 13 + 1]++;
            counts[1][(day + 19) % 20]++;
            counts[2][place % 20]++;
            counts[3][place / 20]++;
            counts[4][(day + 8) % 9 + 1]++;
            counts[5][day * 149 % 4400 / 149]++;
        }
        int[][] edges = {{0, 0}, {1, 33231}, {13, 33231}, {14, 0}, {0, 21600}, {1, 21600}, {19, 21600}, {20, 0},
            {0, 22487}, {4, 22488}, {19, 21304}, {20, 0}, {0, 23660}, {17, 23660}, {18, 5915}, {19, 0},
            {0, 0}, {1, 48000}, {9, 48000}, {10, 0}, {0, 14629}, {28, 14630}, {29, 7756}, {30, 0}};
        for (int i = 0; i < edges.length; i++) {
            Check.stands(words[i / 4] + " " + edges[i][0] + ";", edges[i][1]);
        }
        for (int word = 0; word < words.length; word++) {
            for (int value = 0; value <= 99; value++) {
                Check.stands(words[word] + " " + value + ";", counts[word][value]);
            }
        }
    }

    /** "(so they are 8 to 10, 0 to 19, 0 to 19, 0 to 17, 0 to 19)" */
    private static void manyOfLongPlaces() {
        int[][] bounds = {{8, 10, 144000}, {0, 19, 21600}, {0, 19, 21600}, {0, 17, 24000}, {0, 19, 21600}};
        for (int place = 0; place < 5; place++) {
            for (int value = 0; value <= 99; value++) {
                StringBuilder text = new StringBuilder("long ");
                for (int i = 0; i < 5; i++) {
                    text.append(i > 0 ? "." : "").append(i == place ? String.valueOf(value) : "?");
                }
                boolean is = value >= bounds[place][0] && value <= bounds[place][1];
                Check.stands(text.append(";").toString(), is ? bounds[place][2] : 0);
            }
        }
    }

    /** "N "-" N (from .. to, both in)" */
    private static void manyOfBothEndsIn() {
        StoneDates x = of("long 8.0.0.3.5-7;");
        Check.due("three", x.many(0), 3);
        Check.due("below the first", x.fits(0, FIRST + 64), false);
        Check.due("the first", x.fits(0, FIRST + 65), true);
        Check.due("the last", x.fits(0, FIRST + 67), true);
        Check.due("above the last", x.fits(0, FIRST + 68), false);
        Check.stands("long 7-8.?.?.?.?;", 144000);
        Check.stands("long 10-11.?.?.?.?;", 144000);
        Check.stands("long 7-11.?.?.?.?;", 432000);
        Check.stands("long 11-99.?.?.?.?;", 0);
        Check.stands("long ?.?.?.17-99.?;", 24000);
        Check.stands("long ?.?.?.18-99.?;", 0);
        Check.stands("number 0-1;", 33231);
        Check.stands("number 13-99;", 33231);
        Check.stands("number 14-99;", 0);
        Check.stands("moon 29-99;", 7756);
        Check.stands("moon 30-99;", 0);
        Check.stands("moon 0-29;", 432000);
        Check.stands("moon 0/31/32/63/64/96;", 14629);
    }

    /** MOON is that of the stone's own TOWN, at the least and the greatest BASE. */
    private static void manyOfTheTown() {
        StoneDates x = Check.withTown(0);
        x.town(4399);
        Check.stone(x, 0, "moon 28;");
        Check.stone(x, 1, "moon 28;");
        Check.stone(x, 0, "long 8.0.0.0.0;moon 26;");
        Check.stone(x, 1, "long 8.0.0.0.0;moon 25;");
        Check.stone(x, 1, "long 10.19.19.17.19;moon 27;");
        Check.stone(x, 1, "long 10.19.19.17.19;moon 28;");
        int[] want = {14630, 14629, 1, 1, 1, 0};
        for (int stone = 0; stone < want.length; stone++) {
            Check.due("many by the moon " + stone, x.many(stone), want[stone]);
        }
        Check.due("the first town's day", x.day(0, 0), 1152002);
        Check.due("the second town's day", x.day(1, 0), 1152003);
        Check.due("last day, first town", x.fits(0, LAST), true);
        Check.due("last day, second town", x.fits(1, LAST), false);
    }

    /** Promise 7: "IndexOutOfBoundsException: no such STONE (so below)." */
    private static void manyNoSuchStone() {
        StoneDates x = Check.withTown(0);
        Check.refused("no stones", Check.INDEX, () -> x.many(0));
        for (int i = 0; i < 30; i++) {
            int next = i;
            Check.refused("many(" + next + ") too soon", Check.INDEX, () -> x.many(next));
            x.stone(0, 0);
            Check.due("many(" + next + ")", x.many(next), 432000);
        }
        int[] none = {-1, 30, Integer.MIN_VALUE, Integer.MAX_VALUE};
        for (int stone : none) {
            Check.refused("many(" + stone + ")", Check.INDEX, () -> x.many(stone));
        }
    }

    /** Promise 8: "DAY k of the LIST, from 0 on". */
    private static void dayFirstAndLast() {
        StoneDates x = of("");
        Check.due("all: the first", x.day(0, 0), FIRST);
        StoneDates y = of("long 10.19.19.17.19;");
        Check.due("the last day of all", y.day(0, 0), LAST);
        StoneDates z = of("long 8/10.0/19.0/19.0/17.0/19;");
        Check.due("of 32: the first", z.day(0, 0), FIRST);
        Check.due("of 32: the second", z.day(0, 1), FIRST + 19);
        Check.due("of 32: the last", z.day(0, 31), LAST);
    }

    /** Promise 8: "NONE without one". */
    private static void dayWithoutOne() {
        int[] none = {-1, Integer.MIN_VALUE, Integer.MAX_VALUE, 300, 299, 298, 32};
        StoneDates empty = of("lord 0;");
        StoneDates some = of("long 8/10.0/19.0/19.0/17.0/19;");
        StoneDates one = of("long 8.0.0.0.0;");
        for (int k : none) {
            Check.due("of none: day " + k, empty.day(0, k), -1);
            Check.due("of 32: day " + k, some.day(0, k), -1);
            Check.due("of one: day " + k, one.day(0, k), -1);
        }
        Check.due("of none: day 0", empty.day(0, 0), -1);
        Check.due("of one: day 0", one.day(0, 0), FIRST);
        Check.due("of one: day 1", one.day(0, 1), -1);
    }

    /** Promise 8: "and for k above 299". */
    private static void dayAbove299() {
        StoneDates all = of("");
        Check.due("of all: day 299", all.day(0, 299), FIRST + 299);
        Check.due("of all: day 300", all.day(0, 300), -1);
        Check.due("of all: day 301", all.day(0, 301), -1);
        Check.due("of all: day 431999", all.day(0, 431999), -1);
        Check.due("of all: day -1", all.day(0, -1), -1);
        StoneDates fewer = of(LIST_OF_299);
        Check.due("of 299: day 298", fewer.day(0, 298), 1157754);
        Check.due("of 299: day 299", fewer.day(0, 299), -1);
        StoneDates full = of(LIST_OF_300);
        Check.due("of 300: day 298", full.day(0, 298), 1157735);
        Check.due("of 300: day 299", full.day(0, 299), 1157755);
        Check.due("of 300: day 300", full.day(0, 300), -1);
        StoneDates more = of(LIST_OF_301);
        Check.due("of 301: day 299", more.day(0, 299), 1152353);
        Check.due("of 301: day 300", more.day(0, 300), -1);
        Check.due("of 301: the 301st fits", more.fits(0, 1152359), true);
    }

    /** "LIST of a STONE: all DAYS that FIT, rising", whatever order the text has. */
    private static void dayRises() {
        StoneDates x = of("long 10/9/8.0.0.0.19/0/7-8/3;");
        int[] days = {0, 3, 7, 8, 19};
        for (int k = 0; k < 15; k++) {
            Check.due("rising: day " + k, x.day(0, k), FIRST + k / 5 * 144000 + days[k % 5]);
        }
        Check.due("rising: day 15", x.day(0, 15), -1);
    }

    /** Promise 8: no such STONE. */
    private static void dayNoSuchStone() {
        StoneDates x = of("");
        int[] none = {-1, 1, 29, 30, Integer.MIN_VALUE, Integer.MAX_VALUE};
        for (int stone : none) {
            Check.refused("day(" + stone + ", 0)", Check.INDEX, () -> x.day(stone, 0));
            Check.refused("day(" + stone + ", 300)", Check.INDEX, () -> x.day(stone, 300));
            Check.refused("day(" + stone + ", -1)", Check.INDEX, () -> x.day(stone, -1));
        }
    }

    /** Promise 9: "Whether a DAY FITS a STONE", at the first and the last DAY. */
    private static void fitsFirstAndLastDay() {
        StoneDates all = of("");
        Check.due("the first of all", all.fits(0, FIRST), true);
        Check.due("the last of all", all.fits(0, LAST), true);
        StoneDates none = of("lord 0;");
        Check.due("the first of none", none.fits(0, FIRST), false);
        Check.due("the last of none", none.fits(0, LAST), false);
        StoneDates first = of("long 8.0.0.0.0;");
        Check.due("the first", first.fits(0, FIRST), true);
        Check.due("the one behind it", first.fits(0, FIRST + 1), false);
        StoneDates last = of("long 10.19.19.17.19;");
        Check.due("the last", last.fits(0, LAST), true);
        Check.due("the one ahead of it", last.fits(0, LAST - 1), false);
    }

    /** "if all its CLAUSES hold of it": one sign that is another one is enough. */
    private static void fitsAllButOne() {
        String[] others = {"long 9.?.?.?.?;", "long ?.1.?.?.?;", "long ?.?.1.?.?;", "long ?.?.?.1.?;",
            "long ?.?.?.?.1;", "number 10;", "name 0;", "seat 4;", "month 3;", "lord 1;", "moon 27;"};
        String[] same = {"long 8.?.?.?.?;", "long ?.0.?.?.?;", "long ?.?.0.?.?;", "long ?.?.?.0.?;",
            "long ?.?.?.?.0;", "number 9;", "name 19;", "seat 3;", "month 2;", "lord 9;", "moon 26;"};
        for (int i = 0; i < others.length; i++) {
            Check.due("fits by " + same[i], of(same[i]).fits(0, FIRST), true);
            Check.due("not by " + others[i], of(others[i]).fits(0, FIRST), false);
            Check.due("not by " + same[i] + others[i], of(same[i] + others[i]).fits(0, FIRST), false);
        }
        StoneDates x = of(String.join("", same).replace("long ?.?.?.?.0;", ""));
        Check.due("ten clauses hold", x.fits(0, FIRST), true);
        Check.due("ten clauses don't", x.fits(0, FIRST + 1), false);
    }

    /** Promise 9, of days that `day` can't tell. */
    private static void fitsBehindTheList() {
        StoneDates x = of("lord 8;");
        Check.due("the last one that fits", x.fits(0, LAST), true);
        Check.due("nine ahead", x.fits(0, LAST - 9), true);
        Check.due("eight ahead", x.fits(0, LAST - 8), false);
        Check.due("it is not told", x.day(0, 47999), -1);
    }

    /** Promise 9: no such STONE; it is named ahead of the DAY. */
    private static void fitsNoSuchStone() {
        StoneDates x = of("");
        int[] none = {-1, 1, 30, Integer.MIN_VALUE, Integer.MAX_VALUE};
        for (int stone : none) {
            Check.refused("fits(" + stone + ", FIRST)", Check.INDEX, () -> x.fits(stone, FIRST) ? 1 : 0);
            Check.refused("fits(" + stone + ", 0)", Check.INDEX, () -> x.fits(stone, 0) ? 1 : 0);
        }
    }

    /** Promise 9: "IllegalArgumentException likewise." */
    private static void fitsNoSuchDay() {
        StoneDates x = of("");
        int[] none = {FIRST - 1, LAST + 1, 0, -1, Integer.MIN_VALUE, Integer.MAX_VALUE};
        for (int day : none) {
            Check.refused("fits(0, " + day + ")", Check.ARGUMENT, () -> x.fits(0, day) ? 1 : 0);
        }
    }

    private static void refusedChangesNothing() {
        Answers.changesNothing("many, day and fits, refused", () -> of("long 8.0.0.0.3/5;"), x -> {
            Check.refused("many(1)", Check.INDEX, () -> x.many(1));
            Check.refused("day(-1, 0)", Check.INDEX, () -> x.day(-1, 0));
            Check.refused("fits(1, FIRST)", Check.INDEX, () -> x.fits(1, FIRST) ? 1 : 0);
            Check.refused("fits(0, LAST + 1)", Check.ARGUMENT, () -> x.fits(0, LAST + 1) ? 1 : 0);
        });
    }
}
