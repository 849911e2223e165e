import java.util.Random;
import java.util.regex.Matcher;
import java.util.regex.Pattern;

/** Promises 7 to 9: the days that a stone could mean. */
public final class ListTest {
    private static final int FIRST = 1152000;
    private static final int LAST = 1583999;

    public static void main(String[] args) {
        known();
        edges();
        wrongStones();
        againstEachDay();
        Check.end("ListTest");
    }

    private static void known() {
        StoneDates x = Check.withTown(0);
        x.town(1000);
        Check.stone(x, 0, "number 4;name 19;seat 8;month 17;");
        Check.due("many", x.many(0), 23);
        Check.due("first", x.day(0, 0), 1157780);
        Check.due("second", x.day(0, 1), 1176760);
        Check.due("behind the last", x.day(0, 23), StoneDates.NONE);
        Check.due("fits", x.fits(0, 1366560), true);
        Check.due("fits not", x.fits(0, 1366561), false);
        Check.stone(x, 1, "moon 16;long 9.9.16.0.0/4-6;");
        Check.due("many by the moon of town 1", x.many(1), 1);
        Check.due("the day", x.day(1, 0), 1366560);
        Check.stone(x, 0, "moon 16;long 9.9.16.0.0/4-6;");
        Check.due("many by the moon of town 0", x.many(2), 0);
        Check.due("no day", x.day(2, 0), StoneDates.NONE);
    }

    private static void edges() {
        StoneDates x = Check.withTown(4399);
        Check.stone(x, 0, "");
        Check.due("all days", x.many(0), 432000);
        Check.due("day 0", x.day(0, 0), FIRST);
        Check.due("day 299", x.day(0, 299), FIRST + 299);
        Check.due("day 300", x.day(0, 300), StoneDates.NONE);
        Check.due("day -1", x.day(0, -1), StoneDates.NONE);
        Check.due("day least", x.day(0, Integer.MIN_VALUE), StoneDates.NONE);
        Check.due("day greatest", x.day(0, Integer.MAX_VALUE), StoneDates.NONE);
        Check.due("first fits", x.fits(0, FIRST), true);
        Check.due("last fits", x.fits(0, LAST), true);
        Check.stone(x, 0, "long 8.0.0.0-14.?;");
        Check.due("300 days", x.many(1), 300);
        Check.due("the 300th", x.day(1, 299), FIRST + 299);
        Check.due("the 301st", x.day(1, 300), StoneDates.NONE);
        Check.stone(x, 0, "long 10.19.19.17.19;");
        Check.due("the last day", x.day(2, 0), LAST);
        Check.stone(x, 0, "month 18;seat 5-19;");
        Check.due("a month of five days", x.many(3), 0);
    }

    private static void wrongStones() {
        StoneDates x = Check.withTown(0);
        x.stone(0, 0);
        int[] none = {-1, 1, 30, Integer.MIN_VALUE, Integer.MAX_VALUE};
        for (int stone : none) {
            Check.refused("many(" + stone + ")", Check.INDEX, () -> x.many(stone));
            Check.refused("day(" + stone + ", 0)", Check.INDEX, () -> x.day(stone, 0));
            Check.refused("day(" + stone + ", -1)", Check.INDEX, () -> x.day(stone, -1));
            Check.refused("fits(" + stone + ", 0)", Check.INDEX, () -> x.fits(stone, 0) ? 1 : 0);
        }
        Check.refused("fits a day too low", Check.ARGUMENT, () -> x.fits(0, FIRST - 1) ? 1 : 0);
        Check.refused("fits a day too high", Check.ARGUMENT, () -> x.fits(0, LAST + 1) ? 1 : 0);
    }

    private static void againstEachDay() {
        Random random = new Random(7);
        int tried = 0;
        for (int round = 0; round < 4000 && tried < 400; round++) {
            String text = Texts.make(random);
            if (text.length() > 200 || Texts.place(text) >= 0) {
                continue;
            }
            tried++;
            int base = random.nextInt(4400);
            compare(text, base, random);
        }
        Check.due("texts tried", tried, 400);
    }

    private static StoneDates made(String text, int base) {
        StoneDates x = Check.withTown(base);
        Check.due("'" + text + "'", Check.stone(x, 0, text), 0);
        return x;
    }

    /** Two objects, as one has no more than 512 calls. */
    private static void compare(String text, int base, Random random) {
        StoneDates x = made(text, base);
        StoneDates y = made(text, base);
        boolean[][] sets = setsOf(text);
        int found = 0;
        int asked = 0;
        for (int day = FIRST; day <= LAST; day++) {
            boolean is = holds(sets, day, base);
            if (is && found < 300) {
                Check.due("'" + text + "' day " + found, x.day(0, found), day);
            }
            boolean asks = is && found < 200 || random.nextInt(3000) == 0;
            if (asks && asked < 480) {
                asked++;
                Check.due("'" + text + "' fits " + day, y.fits(0, day), is);
            }
            found += is ? 1 : 0;
        }
        Check.due("many '" + text + "' base " + base, x.many(0), found);
        if (found < 300) {
            Check.due("'" + text + "' behind the last", x.day(0, found), StoneDates.NONE);
        }
    }

    private static boolean holds(boolean[][] sets, int day, int base) {
        int place = (day + 348) % 365;
        int[] signs = {day / 144000, day / 7200 % 20, day / 360 % 20, day / 20 % 18, day % 20,
            (day + 3) % 13 + 1, (day + 19) % 20, place % 20, place / 20, (day + 8) % 9 + 1,
            (int) ((day + base) * 149L % 4400 / 149)};
        for (int i = 0; i < signs.length; i++) {
            if (!sets[i][signs[i]]) {
                return false;
            }
        }
        return true;
    }

    private static boolean[][] setsOf(String text) {
        boolean[][] sets = new boolean[11][100];
        for (boolean[] set : sets) {
            java.util.Arrays.fill(set, true);
        }
        String plain = text.replace(" ", "");
        Matcher clause = Pattern.compile("([a-z]+)([^;]*);").matcher(plain);
        while (clause.find()) {
            int word = Texts.WORDS.indexOf(clause.group(1));
            String[] parts = clause.group(2).split("\\.");
            for (int i = 0; i < parts.length; i++) {
                narrow(sets[word == 0 ? i : word + 4], parts[i]);
            }
        }
        return sets;
    }

    private static void narrow(boolean[] set, String part) {
        if (part.equals("?")) {
            return;
        }
        boolean[] told = new boolean[100];
        for (String range : part.split("/")) {
            String[] ends = range.split("-");
            for (int v = Integer.parseInt(ends[0]); v <= Integer.parseInt(ends[ends.length - 1]); v++) {
                told[v] = true;
            }
        }
        for (int v = 0; v < 100; v++) {
            set[v] &= told[v];
        }
    }
}
