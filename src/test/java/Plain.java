import java.util.ArrayList;
import java.util.Collections;
import java.util.HashSet;
import java.util.List;
import java.util.Set;
import java.util.TreeSet;

/**
 * The document once more, in its plainest form: every day is asked of every clause, every set of wrong
 * distances is tried in the order that BEST names, and nothing is kept from one question to the next.
 */
final class Plain {
    private static final int FIRST = 1152000;
    private static final int LAST = 1583999;
    private static final List<String> ROUNDS = Texts.WORDS.subList(1, Texts.WORDS.size());

    /** A clause about one sign; the values that it leaves, or all. */
    private record Part(int sign, Set<Integer> values) {
    }

    private record Stone(int base, List<Part> parts, List<Integer> days) {
        boolean isOfNet() {
            return days.size() >= 1 && days.size() <= 300;
        }
    }

    private record Distance(int from, int to, int days) {
    }

    private final List<Integer> bases = new ArrayList<>();
    private final List<Stone> stones = new ArrayList<>();
    private final List<Distance> distances = new ArrayList<>();
    private final List<Integer> eclipses = new ArrayList<>();
    private final Set<Integer> naming = new TreeSet<>();
    private final StringBuilder tape = new StringBuilder();

    int town(int base) {
        argument(base >= 0 && base <= 4399);
        state(bases.size() < 10);
        bases.add(base);
        return bases.size() - 1;
    }

    int of(int day, int what) {
        argument(day >= FIRST && day <= LAST);
        argument(what >= 0 && what <= 9);
        return sign(day, what, 0);
    }

    int moon(int day, int town) {
        argument(day >= FIRST && day <= LAST);
        index(town, bases.size());
        return sign(day, 10, bases.get(town));
    }

    int feed(int... five) {
        if (tape.length() + 20 > 200) {
            return -1;
        }
        for (int four : five) {
            tape.append((char) (four >>> 24)).append((char) (four >>> 16 & 255))
                    .append((char) (four >>> 8 & 255)).append((char) (four & 255));
        }
        return tape.length();
    }

    int stone(int town, int n) {
        index(town, bases.size());
        argument(n >= 0 && n <= tape.length());
        state(stones.size() < 30);
        String text = tape.substring(0, n);
        tape.setLength(0);
        int place = Texts.place(text);
        if (place >= 0) {
            return -2 - place;
        }
        List<Part> parts = partsOf(text);
        List<Integer> days = new ArrayList<>();
        for (int day = FIRST; day <= LAST; day++) {
            if (holdsAll(parts, day, bases.get(town))) {
                days.add(day);
            }
        }
        stones.add(new Stone(bases.get(town), parts, days));
        return stones.size() - 1;
    }

    int many(int stone) {
        index(stone, stones.size());
        return stones.get(stone).days.size();
    }

    int day(int stone, int k) {
        index(stone, stones.size());
        List<Integer> days = stones.get(stone).days;
        return k < 0 || k > 299 || k >= days.size() ? -1 : days.get(k);
    }

    boolean fits(int stone, int day) {
        index(stone, stones.size());
        argument(day >= FIRST && day <= LAST);
        Stone asked = stones.get(stone);
        return holdsAll(asked.parts, day, asked.base);
    }

    int distance(int from, int to, int days) {
        index(from, stones.size());
        index(to, stones.size());
        argument(from != to && days >= -500000 && days <= 500000);
        state(distances.size() < 12);
        distances.add(new Distance(from, to, days));
        return distances.size() - 1;
    }

    int least() {
        return bestWrong().size();
    }

    int wrong(int k) {
        List<Integer> row = bestWrong();
        return k >= 0 && k < row.size() ? row.get(k) : -1;
    }

    int settled(int stone) {
        index(stone, stones.size());
        return stones.get(stone).isOfNet() ? settledDays(stone).size() : -1;
    }

    int settledDay(int stone, int k) {
        index(stone, stones.size());
        if (!stones.get(stone).isOfNet()) {
            return -1;
        }
        List<Integer> days = settledDays(stone);
        return k >= 0 && k < days.size() ? days.get(k) : -1;
    }

    int eclipse(int day) {
        argument(day >= 0 && day <= 10000000);
        if (eclipses.contains(day)) {
            return -1;
        }
        if (eclipses.size() == 40) {
            return -2;
        }
        eclipses.add(day);
        return eclipses.size();
    }

    boolean names(int stone, boolean is) {
        index(stone, stones.size());
        state(stones.get(stone).days.size() == 1);
        return is ? !naming.add(stone) : naming.remove(stone);
    }

    int start(int near) {
        return (int) bestStart(near)[2];
    }

    int agrees(int near) {
        return (int) -bestStart(near)[0];
    }

    int count(int what) {
        int ofNet = 0;
        for (Stone each : stones) {
            ofNet += each.isOfNet() ? 1 : 0;
        }
        int[] all = {bases.size(), stones.size(), distances.size(), eclipses.size(), naming.size(),
            tape.length(), ofNet};
        return what >= 0 && what < all.length ? all[what] : -1;
    }

    private static void argument(boolean good) {
        if (!good) {
            throw new IllegalArgumentException();
        }
    }

    private static void state(boolean good) {
        if (!good) {
            throw new IllegalStateException();
        }
    }

    private static void index(int number, int many) {
        if (number < 0 || number >= many) {
            throw new IndexOutOfBoundsException();
        }
    }

    private static int sign(int day, int what, int base) {
        int place = (day + 348) % 365;
        long moon = (long) (day + base) * 149 % 4400 / 149;
        int[] signs = {day / 144000, day % 144000 / 7200, day % 144000 % 7200 / 360,
            day % 144000 % 7200 % 360 / 20, day % 144000 % 7200 % 360 % 20,
            (day + 3) % 13 + 1, (day + 19) % 20, place % 20, place / 20, (day + 8) % 9 + 1, (int) moon};
        return signs[what];
    }

    /** The clauses of a text that stands. */
    private static List<Part> partsOf(String text) {
        List<Part> parts = new ArrayList<>();
        for (String clause : text.replace(" ", "").split(";")) {
            if (clause.isEmpty()) {
                continue;
            }
            String word = clause.replaceAll("[^a-z].*", "");
            String[] places = clause.substring(word.length()).split("\\.");
            int first = word.equals("long") ? 0 : List.of(5, 6, 7, 8, 9, 10).get(ROUNDS.indexOf(word));
            for (int i = 0; i < places.length; i++) {
                if (!places[i].equals("?")) {
                    parts.add(new Part(first + i, valuesOf(places[i])));
                }
            }
        }
        return parts;
    }

    private static Set<Integer> valuesOf(String place) {
        Set<Integer> values = new HashSet<>();
        for (String one : place.split("/")) {
            String[] ends = one.split("-");
            int to = Integer.parseInt(ends[ends.length - 1]);
            for (int value = Integer.parseInt(ends[0]); value <= to; value++) {
                values.add(value);
            }
        }
        return values;
    }

    private static boolean holdsAll(List<Part> parts, int day, int base) {
        for (Part each : parts) {
            if (!each.values.contains(sign(day, each.sign, base))) {
                return false;
            }
        }
        return true;
    }

    private boolean isAsked(Distance d) {
        return stones.get(d.from).isOfNet() && stones.get(d.to).isOfNet();
    }

    /** Rows of k distances, those with the greatest first: the first for which the others can all be right. */
    private List<Integer> bestWrong() {
        List<Integer> asked = new ArrayList<>();
        for (int i = 0; i < distances.size(); i++) {
            if (isAsked(distances.get(i))) {
                asked.add(i);
            }
        }
        for (int k = 0; k <= asked.size(); k++) {
            List<Integer> row = firstRow(asked, 0, k, new ArrayList<>());
            if (row != null) {
                return row;
            }
        }
        throw new AssertionError("all may be wrong");
    }

    private List<Integer> firstRow(List<Integer> asked, int from, int k, List<Integer> row) {
        if (k == 0) {
            return canHold(asked, row) ? row : null;
        }
        for (int i = asked.size() - k; i >= from; i--) {
            List<Integer> longer = new ArrayList<>(row);
            longer.add(asked.get(i));
            List<Integer> found = firstRow(asked, i + 1, k - 1, longer);
            if (found != null) {
                return found;
            }
        }
        return null;
    }

    private boolean canHold(List<Integer> asked, List<Integer> wrong) {
        for (int i : asked) {
            if (!wrong.contains(i) && daysWith(distances.get(i).from, wrong).isEmpty()) {
                return false;
            }
        }
        return true;
    }

    private List<Integer> settledDays(int stone) {
        return daysWith(stone, bestWrong());
    }

    /** The days of a stone with which all distances that hang on it, but for the wrong ones, can be right. */
    private List<Integer> daysWith(int stone, List<Integer> wrong) {
        List<Integer> good = new ArrayList<>();
        for (int day : stones.get(stone).days) {
            Integer[] fixed = new Integer[stones.size()];
            if (spread(stone, day, fixed, wrong)) {
                good.add(day);
            }
        }
        return good;
    }

    private boolean spread(int stone, int day, Integer[] fixed, List<Integer> wrong) {
        if (fixed[stone] != null) {
            return fixed[stone] == day;
        }
        if (Collections.binarySearch(stones.get(stone).days, day) < 0) {
            return false;
        }
        fixed[stone] = day;
        for (int i = 0; i < distances.size(); i++) {
            Distance d = distances.get(i);
            if (wrong.contains(i) || !isAsked(d)) {
                continue;
            }
            if (d.from == stone && !spread(d.to, day + d.days, fixed, wrong)
                    || d.to == stone && !spread(d.from, day - d.days, fixed, wrong)) {
                return false;
            }
        }
        return true;
    }

    /** Less agreeing, the sum, the start: the least of these rows among all starts that could be best. */
    private long[] bestStart(int near) {
        argument(near >= 0 && near <= 1000);
        state(!eclipses.isEmpty() && !naming.isEmpty());
        Set<Integer> starts = new HashSet<>();
        for (int stone : naming) {
            int day = stones.get(stone).days.get(0);
            for (int one : eclipses) {
                for (int other : eclipses) {
                    // A sum bends only on an eclipse, between two that are both near, and where one comes near.
                    if (Math.abs(one - other) <= 2 * near + 2) {
                        addAbout(starts, (one + other) / 2 - day);
                    }
                }
                addAbout(starts, one - near - day);
                addAbout(starts, one + near - day);
            }
        }
        long[] best = null;
        for (int start : starts) {
            long[] row = weigh(start, near);
            if (best == null || isBefore(row, best)) {
                best = row;
            }
        }
        return best;
    }

    private static void addAbout(Set<Integer> starts, int start) {
        starts.add(start - 1);
        starts.add(start);
        starts.add(start + 1);
    }

    private long[] weigh(int start, int near) {
        long agreeing = 0;
        long sum = 0;
        for (int stone : naming) {
            int date = stones.get(stone).days.get(0) + start;
            int nearest = Integer.MAX_VALUE;
            for (int eclipse : eclipses) {
                nearest = Math.min(nearest, Math.abs(eclipse - date));
            }
            if (nearest <= near) {
                agreeing++;
                sum += nearest;
            }
        }
        return new long[] {-agreeing, sum, start};
    }

    private static boolean isBefore(long[] one, long[] other) {
        for (int i = 0; i < one.length; i++) {
            if (one[i] != other[i]) {
                return one[i] < other[i];
            }
        }
        return false;
    }
}
