import java.util.ArrayList;
import java.util.List;
import java.util.Random;
import java.util.TreeSet;

/** Promises 10 to 14: distances, and the fewest of these that must be wrong. */
public final class NetTest {
    private static final int FIRST = 1152000;

    public static void main(String[] args) {
        wrongDistances();
        twelve();
        laterOnesAreWrong();
        outsideTheNet();
        edgeOfTheNet();
        laterStones();
        loops();
        againstEachChoice();
        Check.end("NetTest");
    }

    private static StoneDates sure(int many) {
        StoneDates x = Check.withTown(0);
        for (int i = 0; i < many; i++) {
            Check.stone(x, 0, "long 8.0.0.0." + i + ";");
        }
        return x;
    }

    private static void wrongDistances() {
        StoneDates x = sure(2);
        int[] none = {-1, 2, Integer.MIN_VALUE, Integer.MAX_VALUE};
        for (int stone : none) {
            Check.refused("distance(" + stone + ", 0)", Check.INDEX, () -> x.distance(stone, 0, 1));
            Check.refused("distance(0, " + stone + ")", Check.INDEX, () -> x.distance(0, stone, 500001));
            Check.refused("distance both " + stone, Check.INDEX, () -> x.distance(stone, stone, 1));
            Check.refused("settled(" + stone + ")", Check.INDEX, () -> x.settled(stone));
            Check.refused("settledDay(" + stone + ")", Check.INDEX, () -> x.settledDay(stone, -1));
        }
        Check.refused("both are one", Check.ARGUMENT, () -> x.distance(1, 1, 0));
        Check.refused("too far", Check.ARGUMENT, () -> x.distance(0, 1, 500001));
        Check.refused("too far back", Check.ARGUMENT, () -> x.distance(0, 1, -500001));
        Check.refused("least days", Check.ARGUMENT, () -> x.distance(0, 1, Integer.MIN_VALUE));
        Check.due("none was told", x.count(2), 0);
        Check.due("farthest", x.distance(0, 1, 500000), 0);
        Check.due("farthest back", x.distance(0, 1, -500000), 1);
        Check.due("right", x.distance(0, 1, 1), 2);
        Check.due("right back", x.distance(1, 0, -1), 3);
        Check.due("least", x.least(), 2);
        Check.due("wrong(0)", x.wrong(0), 0);
        Check.due("wrong(1)", x.wrong(1), 1);
        Check.due("wrong(2)", x.wrong(2), StoneDates.NONE);
        Check.due("wrong(-1)", x.wrong(-1), StoneDates.NONE);
        Check.due("wrong(least)", x.wrong(Integer.MIN_VALUE), StoneDates.NONE);
        Check.due("wrong(greatest)", x.wrong(Integer.MAX_VALUE), StoneDates.NONE);
    }

    private static void twelve() {
        StoneDates x = sure(3);
        for (int i = 0; i < 12; i++) {
            Check.due("distance " + i, x.distance(0, 1, i), i);
        }
        Check.refused("a 13th", Check.STATE, () -> x.distance(0, 1, 1));
        Check.refused("a 13th with itself", Check.ARGUMENT, () -> x.distance(0, 0, 1));
        Check.refused("a 13th of no stone", Check.INDEX, () -> x.distance(0, 3, 1));
        Check.due("distances", x.count(2), 12);
        Check.due("least of twelve", x.least(), 11);
        Check.due("wrong(0) of twelve", x.wrong(0), 0);
        Check.due("wrong(1) of twelve", x.wrong(1), 2);
        Check.due("wrong(10) of twelve", x.wrong(10), 11);
        Check.due("wrong(11) of twelve", x.wrong(11), StoneDates.NONE);
    }

    private static void laterOnesAreWrong() {
        StoneDates x = Check.withTown(0);
        Check.stone(x, 0, "long 8.0.0.0.?;");
        Check.stone(x, 0, "long 8.0.0.1.?;");
        x.distance(0, 1, 3);
        Check.due("one alone", x.least(), 0);
        Check.due("its days", x.settled(0), 3);
        Check.due("the first", x.settledDay(0, 0), FIRST + 17);
        Check.due("the last", x.settledDay(0, 2), FIRST + 19);
        Check.due("behind it", x.settledDay(0, 3), StoneDates.NONE);
        Check.due("ahead of it", x.settledDay(0, -1), StoneDates.NONE);
        Check.due("the other's first", x.settledDay(1, 0), FIRST + 20);
        x.distance(1, 0, -4);
        Check.due("two that can't be", x.least(), 1);
        Check.due("the later one", x.wrong(0), 1);
        Check.due("days of the first one", x.settled(1), 3);
        x.distance(0, 1, 4);
        Check.due("two against one", x.least(), 1);
        Check.due("the one", x.wrong(0), 0);
        Check.due("four days", x.settled(0), 4);
        Check.due("the first of four", x.settledDay(0, 0), FIRST + 16);
    }

    private static void outsideTheNet() {
        StoneDates x = Check.withTown(0);
        Check.stone(x, 0, "long 7.?.?.?.?;");
        Check.stone(x, 0, "");
        Check.stone(x, 0, "long 8.0.0.0.5;");
        Check.stone(x, 0, "long 8.0.0.0.7/9;");
        x.distance(0, 2, 1);
        x.distance(2, 1, 1);
        x.distance(2, 3, 3);
        Check.due("none is asked but the last", x.least(), 1);
        Check.due("that one", x.wrong(0), 2);
        Check.due("no days: settled", x.settled(0), StoneDates.NONE);
        Check.due("no days: settledDay", x.settledDay(0, 0), StoneDates.NONE);
        Check.due("all days: settled", x.settled(1), StoneDates.NONE);
        Check.due("all days: settledDay", x.settledDay(1, 0), StoneDates.NONE);
        Check.due("settled of a wrong one", x.settled(3), 2);
        Check.due("of the net", x.count(6), 2);
    }

    private static void edgeOfTheNet() {
        StoneDates x = Check.withTown(777);
        Check.stone(x, 0, "long 8.0.0.0-14.?;");
        Check.stone(x, 0, "long 8.0.0.0-16.?;moon 0-25;");
        Check.due("300 days", x.many(0), 300);
        Check.due("301 days", x.many(1), 301);
        Check.due("settled of 300", x.settled(0), 300);
        Check.due("the 300th", x.settledDay(0, 299), FIRST + 299);
        Check.due("settled of 301", x.settled(1), StoneDates.NONE);
        Check.due("of the net", x.count(6), 1);
        x.distance(0, 1, 500000);
        Check.due("a distance that is not asked", x.least(), 0);
        Check.due("it is not wrong", x.wrong(0), StoneDates.NONE);
    }

    private static void laterStones() {
        StoneDates x = sure(2);
        x.distance(0, 1, 2);
        Check.due("least", x.least(), 1);
        Check.stone(x, 0, "long 8.0.0.0.3-6;");
        Check.due("least with a third", x.least(), 1);
        Check.due("settled of the third", x.settled(2), 4);
        Check.due("its last", x.settledDay(2, 3), FIRST + 6);
        x.distance(1, 2, 4);
        Check.due("least with both", x.least(), 1);
        Check.due("settled of the third then", x.settled(2), 1);
        Check.due("its day then", x.settledDay(2, 0), FIRST + 5);
    }

    private static void loops() {
        StoneDates x = Check.withTown(0);
        for (int i = 0; i < 4; i++) {
            Check.stone(x, 0, "long 9.0.0.?.?;");
        }
        Check.due("too many days", x.count(6), 0);
        StoneDates y = Check.withTown(0);
        for (int i = 0; i < 4; i++) {
            Check.stone(y, 0, "long 9.0.0.0-9.?;");
        }
        y.distance(0, 1, 10);
        y.distance(1, 2, 20);
        y.distance(2, 3, -5);
        y.distance(0, 3, 25);
        Check.due("a loop that closes", y.least(), 0);
        Check.due("its days", y.settled(2), 170);
        Check.due("its first", y.settledDay(2, 0), 1296000 + 30);
        y.distance(3, 0, -24);
        Check.due("one that doesn't", y.least(), 1);
        Check.due("the last one", y.wrong(0), 4);
    }

    private static void againstEachChoice() {
        Random random = new Random(11);
        for (int round = 0; round < 1500; round++) {
            StoneDates x = Check.withTown(0);
            int stones = 2 + random.nextInt(4);
            List<int[]> lists = new ArrayList<>();
            for (int i = 0; i < stones; i++) {
                lists.add(someStone(x, random));
            }
            List<int[]> told = new ArrayList<>();
            int distances = 1 + random.nextInt(12);
            for (int i = 0; i < distances; i++) {
                int from = random.nextInt(stones);
                int to = (from + 1 + random.nextInt(stones - 1)) % stones;
                int days = random.nextInt(13) - 6;
                x.distance(from, to, days);
                told.add(new int[] {from, to, days});
                if (random.nextInt(4) == 0 || i == distances - 1) {
                    new Choices(lists, told).compare(x, "round " + round);
                }
            }
        }
    }

    private static int[] someStone(StoneDates x, Random random) {
        TreeSet<Integer> days = new TreeSet<>();
        int many = random.nextInt(6);
        for (int i = 0; i < many; i++) {
            days.add(random.nextInt(20));
        }
        StringBuilder text = new StringBuilder("long 8.0.0.0.");
        for (int day : days) {
            text.append(text.charAt(text.length() - 1) == '.' ? "" : "/").append(day);
        }
        Check.stone(x, 0, days.isEmpty() ? "lord 0;" : text.append(";").toString());
        int[] list = new int[days.size()];
        int i = 0;
        for (int day : days) {
            list[i++] = FIRST + day;
        }
        return list;
    }

    /** Every choice there is, one after the other. */
    private static final class Choices {
        private final List<int[]> lists;
        private final List<int[]> told;
        private final int[] choice;
        private List<Integer> best = null;
        private List<TreeSet<Integer>> settled = new ArrayList<>();

        Choices(List<int[]> lists, List<int[]> told) {
            this.lists = lists;
            this.told = told;
            this.choice = new int[lists.size()];
            choose(0);
        }

        private void choose(int stone) {
            if (stone == lists.size()) {
                weigh();
                return;
            }
            int[] list = lists.get(stone);
            if (list.length == 0) {
                choose(stone + 1);
            }
            for (int day : list) {
                choice[stone] = day;
                choose(stone + 1);
            }
        }

        private void weigh() {
            List<Integer> wrong = new ArrayList<>();
            for (int i = 0; i < told.size(); i++) {
                int[] d = told.get(i);
                boolean asked = lists.get(d[0]).length > 0 && lists.get(d[1]).length > 0;
                if (asked && choice[d[1]] - choice[d[0]] != d[2]) {
                    wrong.add(i);
                }
            }
            int order = best == null ? -1 : compareRows(wrong, best);
            if (order < 0) {
                best = wrong;
                settled = new ArrayList<>();
                for (int i = 0; i < lists.size(); i++) {
                    settled.add(new TreeSet<>());
                }
            }
            if (order <= 0) {
                for (int i = 0; i < lists.size(); i++) {
                    if (lists.get(i).length > 0) {
                        settled.get(i).add(choice[i]);
                    }
                }
            }
        }

        private static int compareRows(List<Integer> a, List<Integer> b) {
            if (a.size() != b.size()) {
                return a.size() < b.size() ? -1 : 1;
            }
            for (int i = 0; i < a.size(); i++) {
                if (!a.get(i).equals(b.get(i))) {
                    return a.get(i) > b.get(i) ? -1 : 1;
                }
            }
            return 0;
        }

        void compare(StoneDates x, String where) {
            Check.due(where + ": least", x.least(), best.size());
            for (int k = 0; k <= best.size(); k++) {
                Check.due(where + ": wrong(" + k + ")", x.wrong(k), k < best.size() ? best.get(k) : -1);
            }
            for (int s = 0; s < lists.size(); s++) {
                boolean in = lists.get(s).length > 0;
                Check.due(where + ": settled(" + s + ")", x.settled(s), in ? settled.get(s).size() : -1);
                int k = 0;
                for (int day : settled.get(s)) {
                    Check.due(where + ": settledDay(" + s + ", " + k + ")", x.settledDay(s, k), day);
                    k++;
                }
                Check.due(where + ": settledDay(" + s + ", " + k + ")", x.settledDay(s, k), -1);
            }
        }
    }
}
