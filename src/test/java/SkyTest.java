import java.util.Random;
import java.util.TreeSet;

/** Promises 15 to 18: eclipses, and the start that agrees with the most of these. */
public final class SkyTest {
    private static final int FIRST = 1152000;

    public static void main(String[] args) {
        eclipses();
        naming();
        refusals();
        known();
        ties();
        againstEachStart();
        fullSky();
        Check.end("SkyTest");
    }

    private static void eclipses() {
        StoneDates x = new StoneDates();
        int[] none = {-1, 10000001, Integer.MIN_VALUE, Integer.MAX_VALUE};
        for (int day : none) {
            Check.refused("eclipse(" + day + ")", Check.ARGUMENT, () -> x.eclipse(day));
        }
        Check.due("eclipse(0)", x.eclipse(0), 1);
        Check.due("eclipse(10000000)", x.eclipse(10000000), 2);
        Check.due("told", x.eclipse(0), -1);
        for (int i = 3; i <= 40; i++) {
            Check.due("eclipse " + i, x.eclipse(1000 * (i * 17 % 41) + 5), i);
        }
        Check.due("a 41st", x.eclipse(77), -2);
        Check.due("told, and there are 40", x.eclipse(10000000), -1);
        Check.due("told, and there are 40", x.eclipse(0), -1);
        Check.refused("none such, and there are 40", Check.ARGUMENT, () -> x.eclipse(-1));
        Check.due("eclipses", x.count(3), 40);
    }

    private static StoneDates sure(int... days) {
        StoneDates x = Check.withTown(0);
        for (int day : days) {
            Check.stone(x, 0, "long " + day / 144000 + "." + day / 7200 % 20 + "." + day / 360 % 20
                    + "." + day / 20 % 18 + "." + day % 20 + ";");
        }
        return x;
    }

    private static void naming() {
        StoneDates x = sure(FIRST, FIRST + 10);
        Check.stone(x, 0, "");
        Check.stone(x, 0, "lord 0;");
        Check.stone(x, 0, "long 8.0.0.0.0/1;");
        Check.due("not told", x.names(0, false), false);
        Check.due("told for the first time", x.names(0, true), false);
        Check.due("told again", x.names(0, true), true);
        Check.due("naming", x.count(4), 1);
        Check.due("another", x.names(1, true), false);
        Check.due("naming, two", x.count(4), 2);
        Check.due("taken back", x.names(0, false), true);
        Check.due("taken back again", x.names(0, false), false);
        Check.due("naming, one", x.count(4), 1);
        for (int stone = 2; stone <= 4; stone++) {
            int s = stone;
            Check.refused("not sure " + s, Check.STATE, () -> x.names(s, true) ? 1 : 0);
            Check.refused("not sure, not naming " + s, Check.STATE, () -> x.names(s, false) ? 1 : 0);
        }
        int[] none = {-1, 5, Integer.MIN_VALUE, Integer.MAX_VALUE};
        for (int stone : none) {
            Check.refused("names(" + stone + ")", Check.INDEX, () -> x.names(stone, true) ? 1 : 0);
        }
    }

    private static void refusals() {
        StoneDates x = sure(FIRST);
        int[] none = {-1, 1001, Integer.MIN_VALUE, Integer.MAX_VALUE};
        for (int near : none) {
            Check.refused("start(" + near + ")", Check.ARGUMENT, () -> x.start(near));
            Check.refused("agrees(" + near + ")", Check.ARGUMENT, () -> x.agrees(near));
        }
        Check.refused("nothing: start", Check.STATE, () -> x.start(0));
        Check.refused("nothing: agrees", Check.STATE, () -> x.agrees(0));
        x.eclipse(0);
        Check.refused("no stone: start", Check.STATE, () -> x.start(1000));
        Check.refused("no stone: agrees", Check.STATE, () -> x.agrees(1000));
        StoneDates y = sure(FIRST);
        y.names(0, true);
        Check.refused("no eclipse: start", Check.STATE, () -> y.start(0));
        Check.refused("no eclipse: agrees", Check.STATE, () -> y.agrees(0));
        y.eclipse(0);
        Check.due("below 0", y.start(0), -FIRST);
        Check.due("below 0: agrees", y.agrees(0), 1);
        y.names(0, false);
        Check.refused("taken back: start", Check.STATE, () -> y.start(0));
    }

    private static void known() {
        StoneDates x = sure(1366560, 1383136);
        x.eclipse(1950843);
        x.eclipse(1967420);
        x.names(0, true);
        x.names(1, true);
        Check.due("start(0)", x.start(0), 567707);
        Check.due("agrees(0)", x.agrees(0), 1);
        Check.due("start(1)", x.start(1), 584283);
        Check.due("agrees(1)", x.agrees(1), 2);
        Check.due("start(0) again", x.start(0), 567707);
        x.eclipse(1950844);
        Check.due("start(0) with a third", x.start(0), 584284);
        Check.due("agrees(0) with a third", x.agrees(0), 2);
        x.names(1, false);
        Check.due("start(1) with one stone", x.start(1), 1950843 - 1366560);
    }

    private static void ties() {
        StoneDates x = sure(FIRST, FIRST + 10);
        x.names(0, true);
        x.names(1, true);
        x.eclipse(2000000);
        x.eclipse(2000014);
        Check.due("any of five starts: the least", x.start(4), 2000000 - FIRST);
        Check.due("both", x.agrees(4), 2);
        Check.due("the least that agrees with both", x.start(2), 2000002 - FIRST);
        Check.due("not both", x.start(1), 2000000 - 10 - FIRST);
        Check.due("one", x.agrees(1), 1);
    }

    private static void againstEachStart() {
        Random random = new Random(13);
        for (int round = 0; round < 700; round++) {
            int stones = 1 + random.nextInt(8);
            int[] days = new int[stones];
            int wide = 1 + random.nextInt(400);
            for (int i = 0; i < stones; i++) {
                days[i] = FIRST + random.nextInt(wide);
            }
            StoneDates x = sure(days);
            TreeSet<Integer> eclipses = new TreeSet<>();
            int many = 1 + random.nextInt(12);
            int spread = 1 + random.nextInt(500);
            for (int i = 0; i < many; i++) {
                int day = 1000000 + random.nextInt(spread);
                Check.due("eclipse", x.eclipse(day), eclipses.add(day) ? eclipses.size() : -1);
            }
            boolean[] named = new boolean[stones];
            for (int i = 0; i < stones; i++) {
                named[i] = i == 0 || random.nextInt(4) != 0;
                x.names(i, named[i]);
            }
            int[] nears = {0, random.nextInt(4), random.nextInt(30), random.nextInt(200), 1000};
            for (int near : nears) {
                compare(x, days, named, eclipses, near, "round " + round + ", near " + near);
            }
        }
    }

    private static void compare(StoneDates x, int[] days, boolean[] named, TreeSet<Integer> eclipses,
            int near, String where) {
        int bestAgrees = 0;
        int bestSum = 0;
        int bestStart = 0;
        int low = eclipses.first() - FIRST - 500 - near;
        int high = eclipses.last() - FIRST + near;
        for (int start = low; start <= high; start++) {
            int agrees = 0;
            int sum = 0;
            for (int i = 0; i < days.length; i++) {
                int day = days[i] + start;
                Integer above = eclipses.ceiling(day);
                Integer below = eclipses.floor(day);
                int far = Math.min(above == null ? 99999999 : above - day, below == null ? 99999999 : day - below);
                if (named[i] && far <= near) {
                    agrees++;
                    sum += far;
                }
            }
            if (agrees > bestAgrees || agrees == bestAgrees && sum < bestSum) {
                bestAgrees = agrees;
                bestSum = sum;
                bestStart = start;
            }
        }
        Check.due(where + ": start", x.start(near), bestStart);
        Check.due(where + ": agrees", x.agrees(near), bestAgrees);
    }

    private static void fullSky() {
        StoneDates x = Check.withTown(0);
        int[] days = new int[30];
        boolean[] named = new boolean[30];
        for (int i = 0; i < 30; i++) {
            int offset = i * i % 359;
            days[i] = FIRST + offset;
            named[i] = true;
            Check.stone(x, 0, "long 8.0.0." + offset / 20 + "." + offset % 20 + ";");
            x.names(i, true);
        }
        TreeSet<Integer> eclipses = new TreeSet<>();
        for (int i = 0; i < 40; i++) {
            int day = i * 1777 % 1999 + 5000;
            eclipses.add(day);
            x.eclipse(day);
        }
        for (int near = 0; near <= 1000; near += 1 + near / 5) {
            compare(x, days, named, eclipses, near, "full, near " + near);
        }
    }
}
