/** Promises 1 to 4: a new object, towns, the signs of a day. */
public final class DayTest {
    public static void main(String[] args) {
        newObject();
        towns();
        knownDays();
        everySign();
        wrongDays();
        moons();
        Check.end("DayTest");
    }

    private static void newObject() {
        StoneDates x = new StoneDates();
        for (int what = 0; what <= 6; what++) {
            Check.due("new: count(" + what + ")", x.count(what), 0);
        }
        Check.due("new: least", x.least(), 0);
        Check.due("new: wrong(0)", x.wrong(0), StoneDates.NONE);
        Check.refused("new: stone(0, 0)", Check.INDEX, () -> x.stone(0, 0));
        Check.refused("new: many(0)", Check.INDEX, () -> x.many(0));
        Check.refused("new: start(0)", Check.STATE, () -> x.start(0));
        Check.due("NONE", StoneDates.NONE, -1);
    }

    private static void towns() {
        StoneDates x = new StoneDates();
        Check.refused("town(-1)", Check.ARGUMENT, () -> x.town(-1));
        Check.refused("town(4400)", Check.ARGUMENT, () -> x.town(4400));
        Check.refused("town(least int)", Check.ARGUMENT, () -> x.town(Integer.MIN_VALUE));
        for (int i = 0; i < 10; i++) {
            Check.due("town " + i, x.town(i == 9 ? 4399 : i == 0 ? 0 : 7), i);
        }
        Check.refused("an 11th town", Check.STATE, () -> x.town(0));
        Check.refused("an 11th town that is none", Check.ARGUMENT, () -> x.town(4400));
        Check.due("towns", x.count(0), 10);
    }

    private static void knownDays() {
        StoneDates x = new StoneDates();
        int[] want = {9, 9, 16, 0, 0, 4, 19, 8, 17, 9};
        for (int what = 0; what < want.length; what++) {
            Check.due("of(1366560, " + what + ")", x.of(1366560, what), want[what]);
        }
        int[] last = {10, 19, 19, 17, 19};
        for (int what = 0; what < last.length; what++) {
            Check.due("of(1583999, " + what + ")", x.of(1583999, what), last[what]);
            Check.due("of(1152000, " + what + ")", x.of(1152000, what), what == 0 ? 8 : 0);
        }
    }

    private static void everySign() {
        for (int day = 1152000; day <= 1583999; day += day % 97 + 1) {
            StoneDates x = new StoneDates();
            int left = day;
            int[] sizes = {144000, 7200, 360, 20, 1};
            for (int i = 0; i < 5; i++) {
                Check.due("of(" + day + ", " + i + ")", x.of(day, i), left / sizes[i]);
                left %= sizes[i];
            }
            int place = (day + 348) % 365;
            Check.due("number of " + day, x.of(day, 5), (day + 3) % 13 + 1);
            Check.due("name of " + day, x.of(day, 6), (day + 19) % 20);
            Check.due("seat of " + day, x.of(day, 7), place % 20);
            Check.due("month of " + day, x.of(day, 8), place / 20);
            Check.due("lord of " + day, x.of(day, 9), (day + 8) % 9 + 1);
        }
    }

    private static void wrongDays() {
        StoneDates x = Check.withTown(0);
        int[] none = {1151999, 1584000, 0, -1, Integer.MIN_VALUE, Integer.MAX_VALUE};
        for (int day : none) {
            Check.refused("of(" + day + ", 0)", Check.ARGUMENT, () -> x.of(day, 0));
            Check.refused("moon(" + day + ", 0)", Check.ARGUMENT, () -> x.moon(day, 0));
            Check.refused("moon(" + day + ", 9)", Check.ARGUMENT, () -> x.moon(day, 9));
        }
        int[] whats = {-1, 10, 11, Integer.MIN_VALUE, Integer.MAX_VALUE};
        for (int what : whats) {
            Check.refused("of(1152000, " + what + ")", Check.ARGUMENT, () -> x.of(1152000, what));
            Check.refused("moon(1152000, " + what + ")", Check.INDEX, () -> x.moon(1152000, what));
        }
        Check.refused("moon(1152000, 1)", Check.INDEX, () -> x.moon(1152000, 1));
    }

    private static final int[] BASES = {0, 1, 1000, 4399};

    private static StoneDates withBases() {
        StoneDates x = new StoneDates();
        for (int base : BASES) {
            x.town(base);
        }
        return x;
    }

    private static void moons() {
        Check.due("moon(1366560, 0)", withBases().moon(1366560, 0), 20);
        Check.due("moon(1366560, 2)", withBases().moon(1366560, 2), 16);
        for (int day = 1152000; day <= 1583999; day += day % 89 + 1) {
            StoneDates x = withBases();
            for (int i = 0; i < BASES.length; i++) {
                long want = (long) (day + BASES[i]) * 149 % 4400 / 149;
                Check.due("moon(" + day + ", " + i + ")", x.moon(day, i), want);
            }
        }
    }
}
