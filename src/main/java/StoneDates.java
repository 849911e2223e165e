import java.util.Arrays;

/**
 * Stones that name a day by several rounds at once: the days that each could mean, nets of
 * distances between stones, and the start of the count that agrees with the most eclipses.
 */
public final class StoneDates {
    public static final int NONE = -1;

    private static final int MOST_TOWNS = 10;
    private static final int MOST_STONES = 30;
    private static final int MOST_DISTANCES = 12;
    private static final int MOST_ECLIPSES = 40;
    private static final int MOST_BYTES = 200;
    private static final int BYTES_A_FEED = 20;
    private static final int MOST_CLAUSES = 12;
    private static final int MOST_LISTED = 300;
    private static final int BASES = 4_400;
    private static final int FARTHEST = 500_000;
    private static final int LAST_ECLIPSE = 10_000_000;
    private static final int WIDEST = 1_000;

    // The signs of a day, by the numbers that the face uses for them, and the moon behind these.
    private static final int LONG = 0;
    private static final int NUMBER = 5;
    private static final int NAME = 6;
    private static final int SEAT = 7;
    private static final int MONTH = 8;
    private static final int LORD = 9;
    private static final int MOON = 10;
    private static final int SIGNS = 11;

    // A set of values of a sign is an int with a bit for each value: all values are below 30.
    private static final int ANY = -1;

    private final int[] bases = new int[MOST_TOWNS];
    private final Stone[] stones = new Stone[MOST_STONES];
    private final Reader reader = new Reader();
    private final Finder finder = new Finder();
    private final Net net = new Net();
    private final Sky sky = new Sky();
    private int townCount;
    private int stoneCount;

    public StoneDates() {
        townCount = 0;
        stoneCount = 0;
    }

    public int town(int base) throws IllegalArgumentException, IllegalStateException {
        if (base < 0 || base >= BASES) {
            throw new IllegalArgumentException("no such base");
        }
        if (townCount >= MOST_TOWNS) {
            throw new IllegalStateException("there are 10 towns");
        }
        bases[townCount] = base;
        townCount++;
        return townCount - 1;
    }

    public int of(int day, int what) throws IllegalArgumentException {
        checkDay(day);
        if (what < LONG || what > LORD) {
            throw new IllegalArgumentException("no such sign");
        }
        return Calendar.signOf(day, what, 0);
    }

    public int moon(int day, int town) throws IllegalArgumentException, IndexOutOfBoundsException {
        checkDay(day);
        checkTown(town);
        return Calendar.signOf(day, MOON, bases[town]);
    }

    public int feed(int a, int b, int c, int d, int e) {
        if (!reader.hasRoom()) {
            return NONE;
        }
        reader.put(a);
        reader.put(b);
        reader.put(c);
        reader.put(d);
        reader.put(e);
        return reader.size;
    }

    public int stone(int town, int n)
            throws IndexOutOfBoundsException, IllegalArgumentException, IllegalStateException {
        checkTown(town);
        if (n < 0 || n > reader.size) {
            throw new IllegalArgumentException("the tape has not so many bytes");
        }
        if (stoneCount >= MOST_STONES) {
            throw new IllegalStateException("there are 30 stones");
        }
        boolean stands = reader.read(n);
        reader.size = 0;
        if (!stands) {
            return -2 - reader.fault;
        }
        finder.seek(reader.sets, bases[town]);
        Stone made = new Stone(bases[town], reader.sets.clone(),
                Arrays.copyOf(finder.days, finder.kept), finder.many);
        stones[stoneCount] = made;
        net.take(stoneCount, made);
        stoneCount++;
        return stoneCount - 1;
    }

    public int many(int stone) throws IndexOutOfBoundsException {
        return stoneAt(stone).many;
    }

    public int day(int stone, int k) throws IndexOutOfBoundsException {
        int[] days = stoneAt(stone).days;
        return k >= 0 && k < days.length ? days[k] : NONE;
    }

    public boolean fits(int stone, int day)
            throws IndexOutOfBoundsException, IllegalArgumentException {
        Stone asked = stoneAt(stone);
        checkDay(day);
        return asked.allows(day);
    }

    public int distance(int from, int to, int days)
            throws IndexOutOfBoundsException, IllegalArgumentException, IllegalStateException {
        stoneAt(from);
        stoneAt(to);
        if (from == to || days < -FARTHEST || days > FARTHEST) {
            throw new IllegalArgumentException("no such distance");
        }
        if (net.size >= MOST_DISTANCES) {
            throw new IllegalStateException("there are 12 distances");
        }
        return net.add(from, to, days);
    }

    public int least() {
        net.solve();
        return net.fewest;
    }

    public int wrong(int k) {
        net.solve();
        return net.wrongAt(k);
    }

    public int settled(int stone) throws IndexOutOfBoundsException {
        stoneAt(stone);
        net.solve();
        return net.settledSize(stone);
    }

    public int settledDay(int stone, int k) throws IndexOutOfBoundsException {
        stoneAt(stone);
        net.solve();
        return net.settledAt(stone, k);
    }

    public int eclipse(int day) throws IllegalArgumentException {
        if (day < 0 || day > LAST_ECLIPSE) {
            throw new IllegalArgumentException("no such day of the other count");
        }
        return sky.add(day);
    }

    public boolean names(int stone, boolean is)
            throws IndexOutOfBoundsException, IllegalStateException {
        Stone told = stoneAt(stone);
        if (told.many != 1 || told.days.length != 1) {
            throw new IllegalStateException("the stone is not sure");
        }
        return sky.tell(stone, told.days[0], is);
    }

    public int start(int near) throws IllegalArgumentException, IllegalStateException {
        solveSky(near);
        return sky.bestStart;
    }

    public int agrees(int near) throws IllegalArgumentException, IllegalStateException {
        solveSky(near);
        return sky.bestAgreeing;
    }

    public int count(int what) {
        switch (what) {
            case 0: return townCount;
            case 1: return stoneCount;
            case 2: return net.size;
            case 3: return sky.size;
            case 4: return sky.naming;
            case 5: return reader.size;
            case 6: return net.memberCount;
            default: return NONE;
        }
    }

    private void checkDay(int day) {
        if (!Calendar.has(day)) {
            throw new IllegalArgumentException("no such day");
        }
    }

    private void checkTown(int town) {
        if (town < 0 || town >= townCount) {
            throw new IndexOutOfBoundsException("no such town");
        }
    }

    private Stone stoneAt(int number) {
        Stone found = number >= 0 && number < stoneCount ? stones[number] : null;
        if (found == null) {
            throw new IndexOutOfBoundsException("no such stone");
        }
        return found;
    }

    private void solveSky(int near) {
        if (near < 0 || near > WIDEST) {
            throw new IllegalArgumentException("no such nearness");
        }
        if (sky.size == 0 || sky.naming == 0) {
            throw new IllegalStateException("nothing to agree with");
        }
        sky.solve(near);
    }

    /** The days and their signs. */
    private static final class Calendar {
        static final int FIRST = 1_152_000;
        static final int LAST = 1_583_999;

        static boolean has(int day) {
            return day >= FIRST && day <= LAST;
        }

        static int signOf(int day, int sign, int base) {
            switch (sign) {
                case LONG: return day / 144_000;
                case LONG + 1: return day % 144_000 / 7_200;
                case LONG + 2: return day % 7_200 / 360;
                case LONG + 3: return day % 360 / 20;
                case LONG + 4: return day % 20;
                case NUMBER: return (day + 3) % 13 + 1;
                case NAME: return (day + 19) % 20;
                case SEAT: return (day + 348) % 365 % 20;
                case MONTH: return (day + 348) % 365 / 20;
                case LORD: return (day + 8) % 9 + 1;
                default: return (day + base) * 149 % 4_400 / 149;
            }
        }

        static boolean holds(int set, int value) {
            return value >= 0 && value < 32 && (set >> value & 1) != 0;
        }
    }

    /** A stone that stands: what its text leaves of each sign, and the first days of its list. */
    private static final class Stone {
        final int base;
        final int[] sets;
        final int[] days;
        final int many;

        Stone(int base, int[] sets, int[] days, int many) {
            this.base = base;
            this.sets = sets;
            this.days = days;
            this.many = many;
        }

        boolean allows(int day) {
            for (int sign = 0; sign < sets.length; sign++) {
                if (!Calendar.holds(sets[sign], Calendar.signOf(day, sign, base))) {
                    return false;
                }
            }
            return true;
        }
    }

    /** The words that open a clause, with the first sign that each tells of, and how many. */
    private enum Kind {
        COUNT("long", LONG, 5),
        NUMBERED("number", NUMBER, 1),
        NAMED("name", NAME, 1),
        SEATED("seat", SEAT, 1),
        MONTHLY("month", MONTH, 1),
        RULED("lord", LORD, 1),
        LUNAR("moon", MOON, 1);

        final String word;
        final int first;
        final int width;

        Kind(String word, int first, int width) {
            this.word = word;
            this.first = first;
            this.width = width;
        }
    }

    /** The tape, and the reading of a stone's text from it. */
    private static final class Reader {
        private static final Kind[] KINDS = Kind.values();

        final int[] sets = new int[SIGNS];
        int size;
        int fault;
        private final int[] bytes = new int[MOST_BYTES];
        private int length;
        private int at;
        private int heard;

        boolean hasRoom() {
            return size + BYTES_A_FEED <= MOST_BYTES;
        }

        void put(int four) {
            for (int shift = 24; shift >= 0 && size < MOST_BYTES; shift -= 8) {
                bytes[size] = four >> shift & 255;
                size++;
            }
        }

        /** Whether the first n bytes are a text; if not, fault is its place. */
        boolean read(int n) {
            length = Math.max(0, Math.min(n, MOST_BYTES));
            at = 0;
            Arrays.fill(sets, ANY);
            skipBlanks();
            for (int clauses = 0; clauses < MOST_CLAUSES && at < length; clauses++) {
                if (!readClause()) {
                    return false;
                }
                skipBlanks();
            }
            return at >= length || refuse(at);
        }

        private boolean readClause() {
            int from = at;
            Kind kind = readWord();
            if (kind == null) {
                return refuse(from);
            }
            for (int i = 0; i < kind.width; i++) {
                if (i > 0 && !demand('.')) {
                    return false;
                }
                if (!readPart()) {
                    return false;
                }
                narrow(kind.first + i);
            }
            return demand(';');
        }

        private Kind readWord() {
            int from = at;
            while (at < length && bytes[at] >= 'a' && bytes[at] <= 'z') {
                at++;
            }
            for (Kind kind : KINDS) {
                if (isWord(kind.word, from, at)) {
                    return kind;
                }
            }
            return null;
        }

        private boolean isWord(String word, int from, int to) {
            if (word.length() != to - from) {
                return false;
            }
            for (int i = 0; i < word.length(); i++) {
                if (word.charAt(i) != bytes[from + i]) {
                    return false;
                }
            }
            return true;
        }

        private boolean readPart() {
            if (takes('?')) {
                heard = ANY;
                return true;
            }
            heard = 0;
            for (int i = 0; i < MOST_BYTES; i++) {
                if (!readRange()) {
                    return false;
                }
                if (!takes('/')) {
                    return true;
                }
            }
            return true;
        }

        private boolean readRange() {
            int low = readNumber();
            if (low < 0) {
                return false;
            }
            int high = low;
            if (takes('-')) {
                skipBlanks();
                int from = at;
                high = readNumber();
                if (high < 0) {
                    return false;
                }
                if (high < low) {
                    return refuse(from);
                }
            }
            for (int value = low; value <= high && value < 31; value++) {
                heard |= 1 << value;
            }
            return true;
        }

        /** A number of one or two digits, or NONE with its fault. */
        private int readNumber() {
            skipBlanks();
            int from = at;
            int value = 0;
            while (isDigitAt(at) && at - from < 2) {
                value = value * 10 + bytes[at] - '0';
                at++;
            }
            if (at == from || isDigitAt(at)) {
                refuse(at);
                return NONE;
            }
            return value;
        }

        private boolean isDigitAt(int place) {
            return place < length && bytes[place] >= '0' && bytes[place] <= '9';
        }

        private void narrow(int sign) {
            if (sign >= 0 && sign < SIGNS) {
                sets[sign] &= heard;
            }
        }

        private boolean takes(char sign) {
            skipBlanks();
            if (at < length && bytes[at] == sign) {
                at++;
                return true;
            }
            return false;
        }

        private boolean demand(char sign) {
            return takes(sign) || refuse(at);
        }

        private boolean refuse(int place) {
            fault = place;
            return false;
        }

        private void skipBlanks() {
            while (at < length && bytes[at] == ' ') {
                at++;
            }
        }
    }

    /** Which seats of a round hold, as bits, so that many days in a row are asked at once. */
    private static final class Wheel {
        static final int WINDOW = 60;
        private static final long FULL = (1L << WINDOW) - 1;

        private final int period;
        private final long[] bits;
        private boolean free;

        Wheel(int period) {
            this.period = Math.max(1, period);
            // The row goes on past the round, so that no window has to be put together from two ends.
            this.bits = new long[(this.period + WINDOW) / 64 + 2];
        }

        /** Makes all seats fail, or, on a free wheel, hold. */
        void reset(boolean isFree) {
            free = isFree;
            Arrays.fill(bits, 0L);
        }

        void mark(int seat) {
            for (int i = Math.max(0, seat); i < period + WINDOW; i += period) {
                bits[i >> 6] |= 1L << (i & 63);
            }
        }

        /** The seats from here on, the first one lowest. */
        long window(int from) {
            if (free) {
                return FULL;
            }
            if (from < 0 || from >= period) {
                return 0L;
            }
            int shift = from & 63;
            long seen = bits[from >> 6] >>> shift;
            if (shift > 64 - WINDOW) {
                seen |= bits[(from >> 6) + 1] << (64 - shift);
            }
            return seen & FULL;
        }
    }

    /** Finds the list of a stone. */
    private static final class Finder {
        // In each block of 360 days the last two places, the name and the lord come alike.
        private static final int BLOCK = 360;

        final int[] days = new int[MOST_LISTED];
        int kept;
        int many;
        private final Wheel inner = new Wheel(BLOCK);
        private final Wheel thirteen = new Wheel(13);
        private final Wheel year = new Wheel(365);
        private final Wheel lunar = new Wheel(4_400);

        void seek(int[] sets, int base) {
            kept = 0;
            many = 0;
            if (sets.length != SIGNS) {
                return;
            }
            turnInner(sets[LONG + 3], sets[LONG + 4], sets[NAME], sets[LORD]);
            turnThirteen(sets[NUMBER]);
            turnYear(sets[SEAT], sets[MONTH]);
            turnLunar(sets[MOON]);
            for (int first = Calendar.FIRST; first <= Calendar.LAST; first += BLOCK) {
                if (Calendar.holds(sets[LONG], Calendar.signOf(first, LONG, 0))
                        && Calendar.holds(sets[LONG + 1], Calendar.signOf(first, LONG + 1, 0))
                        && Calendar.holds(sets[LONG + 2], Calendar.signOf(first, LONG + 2, 0))) {
                    scan(first, base);
                }
            }
        }

        private void turnInner(int fourth, int fifth, int names, int lords) {
            boolean isFree = (fourth & fifth & names & lords) == ANY;
            inner.reset(isFree);
            for (int i = 0; i < BLOCK && !isFree; i++) {
                int day = Calendar.FIRST + i;
                if (Calendar.holds(fourth, Calendar.signOf(day, LONG + 3, 0))
                        && Calendar.holds(fifth, Calendar.signOf(day, LONG + 4, 0))
                        && Calendar.holds(names, Calendar.signOf(day, NAME, 0))
                        && Calendar.holds(lords, Calendar.signOf(day, LORD, 0))) {
                    inner.mark(i);
                }
            }
        }

        private void turnThirteen(int numbers) {
            thirteen.reset(numbers == ANY);
            for (int i = 0; i < 13 && numbers != ANY; i++) {
                if (Calendar.holds(numbers, i + 1)) {
                    thirteen.mark(i);
                }
            }
        }

        private void turnYear(int seats, int months) {
            boolean isFree = (seats & months) == ANY;
            year.reset(isFree);
            for (int i = 0; i < 365 && !isFree; i++) {
                if (Calendar.holds(seats, i % 20) && Calendar.holds(months, i / 20)) {
                    year.mark(i);
                }
            }
        }

        private void turnLunar(int moons) {
            lunar.reset(moons == ANY);
            for (int i = 0; i < 4_400 && moons != ANY; i++) {
                if (Calendar.holds(moons, Calendar.signOf(i, MOON, 0))) {
                    lunar.mark(i);
                }
            }
        }

        private void scan(int first, int base) {
            int ofThirteen = first + 3;
            int ofYear = first + 348;
            int ofMoon = first + base;
            for (int i = 0; i < BLOCK; i += Wheel.WINDOW) {
                long hits = inner.window(i);
                if (hits != 0L) {
                    hits &= thirteen.window((ofThirteen + i) % 13)
                            & year.window((ofYear + i) % 365)
                            & lunar.window((ofMoon + i) % 4_400);
                }
                many += Long.bitCount(hits);
                keep(first + i, hits);
            }
        }

        private void keep(int first, long hits) {
            long left = hits;
            while (left != 0L && kept < MOST_LISTED) {
                long lowest = left & -left;
                days[kept] = first + Long.bitCount(lowest - 1L);
                kept++;
                left ^= lowest;
            }
        }
    }

    /**
     * The distances, and the fewest of these that must be wrong. Stones that are tied by right
     * distances form a group: one list of days, from which each of them stands a fixed way off.
     */
    private static final class Net {
        private static final int CANNOT = 0;
        private static final int MAY = 1;
        private static final int MUST = 2;

        int size;
        int memberCount;
        int fewest;
        private int wrongs;
        private int solvedSize;
        private final Stone[] members = new Stone[MOST_STONES];
        private final int[] from = new int[MOST_DISTANCES];
        private final int[] to = new int[MOST_DISTANCES];
        private final int[] days = new int[MOST_DISTANCES];
        // Row i tells how it stands before distance i is looked at. A group that distance i has
        // joined bears the number MOST_STONES + i, and a stone alone its own.
        private final int[][] group = new int[MOST_DISTANCES + 1][MOST_STONES];
        private final int[][] offset = new int[MOST_DISTANCES + 1][MOST_STONES];
        private final int[][] joined = new int[MOST_DISTANCES][MOST_LISTED];
        private final int[] joinedSize = new int[MOST_DISTANCES];

        Net() {
            for (int i = 0; i < MOST_STONES; i++) {
                group[0][i] = i;
            }
        }

        void take(int number, Stone stone) {
            if (number >= 0 && number < MOST_STONES && stone.many > 0
                    && stone.many <= MOST_LISTED) {
                members[number] = stone;
                memberCount++;
            }
        }

        int add(int first, int second, int apart) {
            if (size >= MOST_DISTANCES) {
                return NONE;
            }
            from[size] = first;
            to[size] = second;
            days[size] = apart;
            size++;
            return size - 1;
        }

        /** A stone without a distance changes nothing here, so only a new distance asks for more. */
        void solve() {
            if (solvedSize == size) {
                return;
            }
            fewest = size + 1;
            search(0, 0);
            for (int i = 0; i < size; i++) {
                if (!isAsked(i) || (wrongs >> i & 1) != 0 || join(i) == CANNOT) {
                    pass(i);
                }
            }
            solvedSize = size;
        }

        /**
         * Takes each distance as right first: so, of choices with as many wrong, the first one
         * that is met has its wrong ones latest.
         */
        private void search(int i, int wrongSoFar) {
            int many = Integer.bitCount(wrongSoFar);
            if (many >= fewest) {
                return;
            }
            if (i >= size || i >= MOST_DISTANCES) {
                fewest = many;
                wrongs = wrongSoFar;
                return;
            }
            if (!isAsked(i)) {
                pass(i);
                search(i + 1, wrongSoFar);
                return;
            }
            int how = join(i);
            if (how != CANNOT) {
                search(i + 1, wrongSoFar);
            }
            if (how != MUST) {
                pass(i);
                search(i + 1, wrongSoFar | 1 << i);
            }
        }

        private boolean isAsked(int i) {
            return members[from[i]] != null && members[to[i]] != null;
        }

        private void pass(int i) {
            System.arraycopy(group[i], 0, group[i + 1], 0, MOST_STONES);
            System.arraycopy(offset[i], 0, offset[i + 1], 0, MOST_STONES);
        }

        /** Takes distance i as right, if it can be. */
        private int join(int i) {
            int first = group[i][from[i]];
            int second = group[i][to[i]];
            int apart = days[i] + offset[i][from[i]] - offset[i][to[i]];
            if (first == second) {
                if (apart != 0) {
                    return CANNOT;
                }
                pass(i);
                return MUST;
            }
            if (!meet(i, first, second, apart)) {
                return CANNOT;
            }
            pass(i);
            for (int s = 0; s < MOST_STONES; s++) {
                if (group[i][s] == second) {
                    offset[i + 1][s] += apart;
                }
                if (group[i][s] == first || group[i][s] == second) {
                    group[i + 1][s] = MOST_STONES + i;
                }
            }
            return MAY;
        }

        /** Keeps the days of the first group that have one of the second so far behind. */
        private boolean meet(int i, int first, int second, int apart) {
            int[] ones = daysOf(first);
            int[] others = daysOf(second);
            int oneSize = sizeOf(first);
            int otherSize = sizeOf(second);
            int one = 0;
            int other = 0;
            int found = 0;
            while (one < oneSize && other < otherSize) {
                int gap = others[other] - ones[one] - apart;
                if (gap == 0) {
                    joined[i][found] = ones[one];
                    found++;
                }
                if (gap >= 0) {
                    one++;
                }
                if (gap <= 0) {
                    other++;
                }
            }
            joinedSize[i] = found;
            return found > 0;
        }

        private int[] daysOf(int number) {
            if (number >= MOST_STONES) {
                return joined[number - MOST_STONES];
            }
            Stone alone = members[number];
            return alone == null ? joined[0] : alone.days;
        }

        private int sizeOf(int number) {
            if (number >= MOST_STONES) {
                return joinedSize[number - MOST_STONES];
            }
            Stone alone = members[number];
            return alone == null ? 0 : alone.days.length;
        }

        int wrongAt(int k) {
            int left = k;
            for (int i = 0; i < size && left >= 0; i++) {
                if ((wrongs >> i & 1) != 0) {
                    if (left == 0) {
                        return i;
                    }
                    left--;
                }
            }
            return NONE;
        }

        int settledSize(int stone) {
            return members[stone] == null ? NONE : sizeOf(group[size][stone]);
        }

        int settledAt(int stone, int k) {
            if (k < 0 || k >= settledSize(stone)) {
                return NONE;
            }
            return daysOf(group[size][stone])[k] + offset[size][stone];
        }
    }

    /** The eclipses, the stones that name one, and the start that agrees best. */
    private static final class Sky {
        // Each eclipse has three turns: where a day comes near it, itself, and where one leaves.
        private static final int TURNS = 3;

        int size;
        int naming;
        int bestStart;
        int bestAgreeing;
        private final int[] eclipses = new int[MOST_ECLIPSES];
        private final boolean[] isNaming = new boolean[MOST_STONES];
        private final int[] dayOf = new int[MOST_STONES];
        private final int[] turns = new int[TURNS * MOST_ECLIPSES];
        private final int[] dates = new int[MOST_STONES];
        private final int[] next = new int[MOST_STONES];
        private int solvedNear = NONE;
        private int agreeing;
        private int slope;
        private long height;
        private long bestSum;

        /** Keeps the eclipses rising. */
        int add(int day) {
            int place = size;
            for (int i = size - 1; i >= 0 && eclipses[i] >= day; i--) {
                place = i;
            }
            if (place < size && eclipses[place] == day) {
                return -1;
            }
            if (size >= MOST_ECLIPSES) {
                return -2;
            }
            System.arraycopy(eclipses, place, eclipses, place + 1, size - place);
            eclipses[place] = day;
            size++;
            solvedNear = NONE;
            return size;
        }

        boolean tell(int stone, int day, boolean is) {
            if (stone < 0 || stone >= MOST_STONES) {
                return false;
            }
            boolean was = isNaming[stone];
            if (was != is) {
                isNaming[stone] = is;
                dayOf[stone] = day;
                naming += is ? 1 : -1;
                solvedNear = NONE;
            }
            return was;
        }

        /**
         * Goes through all starts, rising. Between two turns of any stone the same ones agree, and
         * the sum of how far they are is a straight line: so its two ends are all that is asked.
         */
        void solve(int near) {
            if (solvedNear == near) {
                return;
            }
            solvedNear = near;
            placeTurns(near);
            int stoneCount = gatherDates();
            agreeing = 0;
            slope = 0;
            height = 0L;
            bestAgreeing = 0;
            int reached = 0;
            int all = TURNS * size * stoneCount;
            for (int done = 0; done < all; done++) {
                int first = firstToTurn(stoneCount);
                if (first < 0) {
                    return;
                }
                int start = turns[next[first]] - dates[first];
                if (done > 0 && start > reached) {
                    consider(reached);
                    consider(start - 1);
                }
                reached = start;
                turn(first);
            }
        }

        /** An eclipse's turns end where another one is nearer. */
        private void placeTurns(int near) {
            for (int i = 0; i < size; i++) {
                int from = eclipses[i] - near;
                int to = eclipses[i] + near;
                if (i > 0) {
                    from = Math.max(from, (eclipses[i - 1] + eclipses[i]) / 2 + 1);
                }
                if (i + 1 < size) {
                    to = Math.min(to, (eclipses[i] + eclipses[i + 1]) / 2);
                }
                turns[TURNS * i] = from;
                turns[TURNS * i + 1] = eclipses[i];
                turns[TURNS * i + 2] = to + 1;
            }
        }

        private int gatherDates() {
            int found = 0;
            for (int i = 0; i < MOST_STONES; i++) {
                if (isNaming[i]) {
                    dates[found] = dayOf[i];
                    next[found] = 0;
                    found++;
                }
            }
            return found;
        }

        private int firstToTurn(int stoneCount) {
            int first = NONE;
            int least = 0;
            for (int i = 0; i < stoneCount; i++) {
                if (next[i] < TURNS * size) {
                    int start = turns[next[i]] - dates[i];
                    if (first == NONE || start < least) {
                        first = i;
                        least = start;
                    }
                }
            }
            return first;
        }

        /** Ahead of its eclipse a stone adds to the sum what is left to it, behind it what is past. */
        private void turn(int stone) {
            int step = next[stone] % TURNS;
            int middle = turns[next[stone] - step + 1] - dates[stone];
            if (step == 1) {
                height -= 2L * middle;
                slope += 2;
            } else {
                height += middle;
                slope -= 1;
                agreeing += step == 0 ? 1 : -1;
            }
            next[stone]++;
        }

        private void consider(int start) {
            long sum = height + (long) slope * start;
            if (agreeing > bestAgreeing || agreeing == bestAgreeing && sum < bestSum) {
                bestAgreeing = agreeing;
                bestSum = sum;
                bestStart = start;
            }
        }
    }
}
