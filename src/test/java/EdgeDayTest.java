/** Boundary cases of promises 1 to 4, sentence by sentence, with the terms that they use. */
public final class EdgeDayTest {
    private static final int FIRST = 1152000;
    private static final int LAST = 1583999;

    public static void main(String[] args) {
        newObjectHasNothing();
        newObjectsAreApart();
        townNumbers();
        townBases();
        townsAreTen();
        townRefusedChangesNothing();
        ofFirstAndLastDay();
        ofNoSuchDay();
        ofAnotherWhat();
        longTurnsOver();
        roundsTurnOver();
        yearTurnsOver();
        moonFirstAndLastDay();
        moonTurnsOver();
        moonNoSuchDay();
        moonNoSuchTown();
        Check.end("EdgeDayTest");
    }

    /** Promise 1: "No TOWNS, STONES, DISTANCES, ECLIPSES." */
    private static void newObjectHasNothing() {
        StoneDates x = new StoneDates();
        for (int what = 0; what <= 6; what++) {
            Check.due("new: count(" + what + ")", x.count(what), 0);
        }
        Check.refused("new: moon", Check.INDEX, () -> x.moon(FIRST, 0));
        Check.refused("new: stone", Check.INDEX, () -> x.stone(0, 0));
        Check.refused("new: many", Check.INDEX, () -> x.many(0));
        Check.refused("new: day", Check.INDEX, () -> x.day(0, 0));
        Check.refused("new: fits", Check.INDEX, () -> x.fits(0, FIRST) ? 1 : 0);
        Check.refused("new: distance", Check.INDEX, () -> x.distance(0, 1, 0));
        Check.refused("new: settled", Check.INDEX, () -> x.settled(0));
        Check.refused("new: settledDay", Check.INDEX, () -> x.settledDay(0, 0));
        Check.refused("new: names", Check.INDEX, () -> x.names(0, true) ? 1 : 0);
        Check.refused("new: start", Check.STATE, () -> x.start(0));
        Check.refused("new: agrees", Check.STATE, () -> x.agrees(0));
        Check.due("new: least", x.least(), 0);
        Check.due("new: wrong(0)", x.wrong(0), -1);
        Check.due("new: the first bytes", x.feed(0, 0, 0, 0, 0), 20);
        Check.due("new: the first town", x.town(0), 0);
        Check.due("new: the first stone", x.stone(0, 0), 0);
        Check.due("new: the second stone", x.stone(0, 0), 1);
        Check.due("new: the first distance", x.distance(0, 1, 0), 0);
        Check.due("new: the first eclipse", x.eclipse(0), 1);
    }

    /** Promise 1, of a second object beside a full one. */
    private static void newObjectsAreApart() {
        StoneDates full = Check.withTown(0);
        Check.stone(full, 0, "long 8.0.0.0.0;");
        Check.stone(full, 0, "long 8.0.0.0.1;");
        full.distance(0, 1, 5);
        full.eclipse(9);
        full.names(0, true);
        full.feed(1, 2, 3, 4, 5);
        StoneDates x = new StoneDates();
        for (int what = 0; what <= 6; what++) {
            Check.due("beside a full one: count(" + what + ")", x.count(what), 0);
        }
        Check.due("beside a full one: least", x.least(), 0);
        Check.due("the full one's least", full.least(), 1);
        x.town(7);
        Check.due("the full one's towns", full.count(0), 1);
    }

    /** Promise 2: "A TOWN: its number" ("TOWNS, numbered from 0 on"). */
    private static void townNumbers() {
        StoneDates x = new StoneDates();
        for (int i = 0; i < 10; i++) {
            Check.due("town number " + i, x.town(4399 - i), i);
            Check.due("towns then", x.count(0), i + 1);
        }
    }

    /** Promise 2: "IllegalArgumentException: the BASE" ("a BASE (0 to 4,399)"). */
    private static void townBases() {
        int[] taken = {0, 1, 4398, 4399};
        for (int base : taken) {
            Check.due("town(" + base + ")", new StoneDates().town(base), 0);
        }
        int[] none = {-1, 4400, Integer.MIN_VALUE, Integer.MAX_VALUE};
        for (int base : none) {
            Check.refused("town(" + base + ")", Check.ARGUMENT, () -> new StoneDates().town(base));
        }
    }

    private static StoneDates tenTowns() {
        StoneDates x = new StoneDates();
        for (int i = 0; i < 10; i++) {
            x.town(i * 400);
        }
        return x;
    }

    /** Promise 2: "IllegalStateException: there are 10." */
    private static void townsAreTen() {
        StoneDates x = tenTowns();
        Check.due("ten towns", x.count(0), 10);
        Check.refused("an 11th, base 0", Check.STATE, () -> x.town(0));
        Check.refused("an 11th, base 4399", Check.STATE, () -> x.town(4399));
        Check.refused("an 11th, base -1", Check.ARGUMENT, () -> x.town(-1));
        Check.refused("an 11th, base 4400", Check.ARGUMENT, () -> x.town(4400));
        Check.due("ten towns still", x.count(0), 10);
        Check.due("the tenth is of use", x.stone(9, 0), 0);
        Check.refused("the 11th is not", Check.INDEX, () -> x.stone(10, 0));
    }

    private static void townRefusedChangesNothing() {
        Answers.changesNothing("town(-1) of none", StoneDates::new,
                x -> Check.refused("town(-1)", Check.ARGUMENT, () -> x.town(-1)));
        Answers.changesNothing("town(4400) behind one", () -> Check.withTown(3),
                x -> Check.refused("town(4400)", Check.ARGUMENT, () -> x.town(4400)));
        Answers.changesNothing("an 11th town", EdgeDayTest::tenTowns,
                x -> Check.refused("town 11", Check.STATE, () -> x.town(1)));
    }

    private static void signs(int day, int... want) {
        StoneDates x = new StoneDates();
        for (int what = 0; what < want.length; what++) {
            Check.due("of(" + day + ", " + what + ")", x.of(day, what), want[what]);
        }
    }

    /** Promise 3: "0 to 4 the places of LONG, 5 NUMBER, 6 NAME, 7 SEAT, 8 MONTH, 9 LORD". */
    private static void ofFirstAndLastDay() {
        signs(FIRST, 8, 0, 0, 0, 0, 9, 19, 3, 2, 9);
        signs(FIRST + 1, 8, 0, 0, 0, 1, 10, 0, 4, 2, 1);
        signs(LAST - 1, 10, 19, 19, 17, 18, 4, 17, 6, 12, 7);
        signs(LAST, 10, 19, 19, 17, 19, 5, 18, 7, 12, 8);
    }

    /** Promise 3: "IllegalArgumentException: no such DAY (so below)". */
    private static void ofNoSuchDay() {
        StoneDates x = new StoneDates();
        int[] none = {FIRST - 1, LAST + 1, 0, -1, -FIRST, Integer.MIN_VALUE, Integer.MAX_VALUE};
        for (int day : none) {
            for (int what = 0; what <= 9; what++) {
                int w = what;
                Check.refused("of(" + day + ", " + w + ")", Check.ARGUMENT, () -> x.of(day, w));
            }
        }
    }

    /** Promise 3: "or another what". */
    private static void ofAnotherWhat() {
        StoneDates x = Check.withTown(0);
        int[] others = {-1, 10, 11, Integer.MIN_VALUE, Integer.MAX_VALUE};
        for (int what : others) {
            Check.refused("of(FIRST, " + what + ")", Check.ARGUMENT, () -> x.of(FIRST, what));
            Check.refused("of(LAST, " + what + ")", Check.ARGUMENT, () -> x.of(LAST, what));
            Check.refused("of(0, " + what + ")", Check.ARGUMENT, () -> x.of(0, what));
        }
        Answers.changesNothing("of, refused", () -> Check.withTown(3), y -> {
            Check.refused("of(FIRST, 10)", Check.ARGUMENT, () -> y.of(FIRST, 10));
            Check.refused("of(LAST + 1, 0)", Check.ARGUMENT, () -> y.of(LAST + 1, 0));
        });
    }

    /** "(so they are 8 to 10, 0 to 19, 0 to 19, 0 to 17, 0 to 19)" */
    private static void longTurnsOver() {
        signs(FIRST + 19, 8, 0, 0, 0, 19);
        signs(FIRST + 20, 8, 0, 0, 1, 0);
        signs(FIRST + 359, 8, 0, 0, 17, 19);
        signs(FIRST + 360, 8, 0, 1, 0, 0);
        signs(FIRST + 7199, 8, 0, 19, 17, 19);
        signs(FIRST + 7200, 8, 1, 0, 0, 0);
        signs(FIRST + 143999, 8, 19, 19, 17, 19);
        signs(FIRST + 144000, 9, 0, 0, 0, 0);
        signs(FIRST + 287999, 9, 19, 19, 17, 19);
        signs(FIRST + 288000, 10, 0, 0, 0, 0);
    }

    private static void turn(int day, int what, int from, int to) {
        StoneDates x = new StoneDates();
        Check.due("of(" + day + ", " + what + ")", x.of(day, what), from);
        Check.due("of(" + (day + 1) + ", " + what + ")", x.of(day + 1, what), to);
    }

    /** NUMBER is 1 to 13, NAME 0 to 19, LORD 1 to 9. */
    private static void roundsTurnOver() {
        turn(1152004, 5, 13, 1);
        turn(1152000, 6, 19, 0);
        turn(1152000, 9, 9, 1);
        turn(1152016, 5, 12, 13);
        turn(1152019, 6, 18, 19);
        turn(1152008, 9, 8, 9);
    }

    /** "MONTH: by 20, cut (0 to 18), SEAT: what is left (0 to 19)": the last month has five days. */
    private static void yearTurnsOver() {
        turn(1152016, 7, 19, 0);
        turn(1152016, 8, 2, 3);
        turn(1152316, 7, 19, 0);
        turn(1152316, 8, 17, 18);
        turn(1152321, 7, 4, 0);
        turn(1152321, 8, 18, 0);
    }

    private static StoneDates fourTowns() {
        StoneDates x = new StoneDates();
        x.town(0);
        x.town(1);
        x.town(4398);
        x.town(4399);
        return x;
    }

    /** Promise 4: "MOON of a DAY in a TOWN", at the first and last DAY with the least and greatest BASE. */
    private static void moonFirstAndLastDay() {
        StoneDates x = fourTowns();
        int[] first = {26, 27, 24, 25};
        int[] last = {28, 0, 26, 27};
        for (int town = 0; town < 4; town++) {
            Check.due("moon(FIRST, " + town + ")", x.moon(FIRST, town), first[town]);
            Check.due("moon(LAST, " + town + ")", x.moon(LAST, town), last[town]);
        }
    }

    /** "by 149, cut (0 to 29)": 28 or 29 is the last one. */
    private static void moonTurnsOver() {
        StoneDates x = fourTowns();
        int[][] days = {{1152002, 28}, {1152003, 0}, {1152031, 28}, {1152032, 29}, {1152033, 0},
            {1152799, 28}, {1152800, 0}, {1152801, 1}, {1155251, 29}, {1155252, 0}, {1155280, 28}, {1152829, 29}};
        for (int[] each : days) {
            Check.due("moon(" + each[0] + ", base 0)", x.moon(each[0], 0), each[1]);
            Check.due("moon(" + (each[0] - 1) + ", base 1)", x.moon(each[0] - 1, 1), each[1]);
            Check.due("moon(" + (each[0] + 1) + ", base 4399)", x.moon(each[0] + 1, 3), each[1]);
        }
    }

    /** Promise 3's "(so below)": no such DAY. */
    private static void moonNoSuchDay() {
        StoneDates x = Check.withTown(4399);
        int[] none = {FIRST - 1, LAST + 1, 0, -1, Integer.MIN_VALUE, Integer.MAX_VALUE};
        for (int day : none) {
            Check.refused("moon(" + day + ", 0)", Check.ARGUMENT, () -> x.moon(day, 0));
            Check.refused("moon(" + day + ", 1)", Check.ARGUMENT, () -> x.moon(day, 1));
            Check.refused("moon(" + day + ", -1)", Check.ARGUMENT, () -> x.moon(day, -1));
        }
    }

    /** Promise 4: "IndexOutOfBoundsException: no such TOWN (so below)." */
    private static void moonNoSuchTown() {
        StoneDates x = fourTowns();
        StoneDates ten = tenTowns();
        int[] none = {-1, 10, Integer.MIN_VALUE, Integer.MAX_VALUE};
        for (int town : none) {
            Check.refused("moon(FIRST, " + town + ")", Check.INDEX, () -> x.moon(FIRST, town));
            Check.refused("moon(FIRST, " + town + ") of ten", Check.INDEX, () -> ten.moon(FIRST, town));
        }
        Check.refused("moon(LAST, 4) of four", Check.INDEX, () -> x.moon(LAST, 4));
        Check.due("moon(1366560, 9) of ten", ten.moon(1366560, 9), (1366560 + 3600) * 149 % 4400 / 149);
        Answers.changesNothing("moon, refused", () -> Check.withTown(3), y -> {
            Check.refused("moon(FIRST, 1)", Check.INDEX, () -> y.moon(FIRST, 1));
            Check.refused("moon(0, 0)", Check.ARGUMENT, () -> y.moon(0, 0));
        });
    }
}
