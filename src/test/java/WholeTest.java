import java.util.Random;

/** All promises together: long runs of all kinds of calls, each answer held against the plain model's. */
public final class WholeTest {
    private static final int RUNS = 12;
    private static final int CALLS = 512;
    // Where the other count begins in most of the runs, so that eclipses and stones have to do with each other.
    private static final int START = 584283;

    private final Random random;
    private final int run;
    private final StoneDates x = new StoneDates();
    private final Plain plain = new Plain();
    private int calls = 0;

    private WholeTest(int run) {
        this.run = run;
        this.random = new Random(1000 + run);
    }

    public static void main(String[] args) {
        for (int run = 0; run < RUNS; run++) {
            new WholeTest(run).go();
        }
        Check.end("WholeTest");
    }

    private void go() {
        both("town", () -> x.town(0), () -> plain.town(0));
        while (calls < CALLS) {
            // Every third run fills up with stones, and another third with eclipses.
            boolean more = random.nextInt(3) == 0;
            int how = random.nextInt(100);
            if (more && run % 3 == 1 || how < 10) {
                putStone();
            } else if (more && run % 3 == 2) {
                sky();
            } else if (how < 14) {
                putTown();
            } else if (how < 30) {
                askDays();
            } else if (how < 50) {
                askStone();
            } else if (how < 56) {
                putDistance();
            } else if (how < 74) {
                askNet();
            } else if (how < 92) {
                sky();
            } else {
                tapeAndCounts();
            }
        }
    }

    private void both(String what, Check.Call program, Check.Call model) {
        if (calls >= CALLS) {
            return;
        }
        calls++;
        Check.same("run " + run + ", call " + calls + ": " + what, program, model);
    }

    private static long bit(boolean is) {
        return is ? 1 : 0;
    }

    private int someDay() {
        return 1366560 + random.nextInt(random.nextBoolean() ? 400 : 40000);
    }

    private int someStone() {
        int many = plain.count(1);
        return random.nextInt(20) == 0 ? random.nextInt(5) - 2 + many : random.nextInt(Math.max(1, many));
    }

    private int anyOf(int... all) {
        return all[random.nextInt(all.length)];
    }

    private void putTown() {
        int base = random.nextInt(3) > 0 ? random.nextInt(4400) : anyOf(-1, 0, 4399, 4400);
        both("town " + base, () -> x.town(base), () -> plain.town(base));
    }

    private void putStone() {
        int how = random.nextInt(10);
        String text = how < 4 ? sure() : how < 8 ? worn() : Texts.spoil(Texts.make(random), random);
        if (text.length() > 200) {
            return;
        }
        int town = random.nextInt(20) == 0 ? anyOf(-1, plain.count(0)) : random.nextInt(plain.count(0));
        int n = random.nextInt(20) == 0 ? anyOf(-1, 0, 201, text.length() + 1) : text.length();
        feedText(text);
        both("stone " + town + " " + n + " '" + text + "'", () -> x.stone(town, n), () -> plain.stone(town, n));
    }

    private void feedText(String text) {
        for (int from = 0; from < text.length(); from += 20) {
            int[] five = new int[5];
            for (int i = 0; i < 20; i++) {
                five[i / 4] = five[i / 4] << 8 | (from + i < text.length() ? text.charAt(from + i) : 0);
            }
            feed(five);
        }
    }

    private void feed(int[] five) {
        both("feed", () -> x.feed(five[0], five[1], five[2], five[3], five[4]), () -> plain.feed(five));
    }

    private String sure() {
        int day = someDay();
        StringBuilder text = new StringBuilder("long ");
        for (int place = 0; place < 5; place++) {
            text.append(place > 0 ? "." : "").append(plain.of(day, place));
        }
        return text.append(";").append(random.nextBoolean() ? "" : clauses(day, 1)).toString();
    }

    /** A day's signs, some of them worn away, or one of several. */
    private String worn() {
        int day = someDay();
        if (random.nextInt(3) == 0) {
            return clauses(day, 5);
        }
        StringBuilder text = new StringBuilder("long ");
        for (int place = 0; place < 5; place++) {
            int value = plain.of(day, place);
            int how = random.nextInt(place < 2 ? 8 : 4);
            text.append(place > 0 ? "." : "");
            text.append(how == 0 ? "?" : how == 1 ? value + "/" + random.nextInt(20)
                    : how == 2 ? Math.max(0, value - 2) + "-" + (value + 1) : "" + value);
        }
        return text.append(";").append(clauses(day, 2)).toString();
    }

    private String clauses(int day, int most) {
        StringBuilder text = new StringBuilder();
        for (int i = 0; i < most; i++) {
            int sign = most == 5 ? 5 + i : 5 + random.nextInt(5);
            text.append(Texts.WORDS.get(sign - 4)).append(" ").append(plain.of(day, sign)).append(";");
        }
        return text.append(random.nextInt(4) == 0 ? "moon " + random.nextInt(15) + "-28;" : "").toString();
    }

    private void askDays() {
        int day = random.nextInt(8) > 0 ? 1152000 + random.nextInt(432000)
                : anyOf(1151999, 1152000, 1583999, 1584000);
        int what = random.nextInt(12) - 1;
        both("of " + day + " " + what, () -> x.of(day, what), () -> plain.of(day, what));
        int town = random.nextInt(plain.count(0) + 1) - random.nextInt(2);
        both("moon " + day + " " + town, () -> x.moon(day, town), () -> plain.moon(day, town));
    }

    private void askStone() {
        int stone = someStone();
        both("many " + stone, () -> x.many(stone), () -> plain.many(stone));
        int k = random.nextInt(3) > 0 ? random.nextInt(25) : anyOf(-1, 0, 1, 298, 299, 300);
        both("day " + stone + " " + k, () -> x.day(stone, k), () -> plain.day(stone, k));
        int day = random.nextInt(8) > 0 ? someDay() : anyOf(1151999, 1152000, 1583999, 1584000);
        both("fits " + stone + " " + day, () -> bit(x.fits(stone, day)), () -> bit(plain.fits(stone, day)));
    }

    private void putDistance() {
        int from = someStone();
        int to = someStone();
        int days = random.nextInt(6) == 0 ? anyOf(-500001, -500000, 0, 500000, 500001)
                : listed(to) - listed(from) + (random.nextInt(4) == 0 ? random.nextInt(3) - 1 : 0);
        both("distance " + from + " " + to + " " + days,
                () -> x.distance(from, to, days), () -> plain.distance(from, to, days));
    }

    private int listed(int stone) {
        boolean isOne = stone >= 0 && stone < plain.count(1) && plain.many(stone) > 0;
        return isOne ? plain.day(stone, random.nextInt(Math.min(300, plain.many(stone)))) : 1152000;
    }

    private void askNet() {
        int k = random.nextInt(5) - 1;
        int stone = someStone();
        int how = random.nextInt(4);
        if (how == 0) {
            both("least", () -> x.least(), () -> plain.least());
        } else if (how == 1) {
            both("wrong " + k, () -> x.wrong(k), () -> plain.wrong(k));
        } else if (how == 2) {
            both("settled " + stone, () -> x.settled(stone), () -> plain.settled(stone));
        } else {
            both("settledDay " + stone + " " + k, () -> x.settledDay(stone, k), () -> plain.settledDay(stone, k));
        }
    }

    private void sky() {
        int how = random.nextInt(10);
        int stone = someStone();
        int near = random.nextInt(4) > 0 ? random.nextInt(30) : anyOf(-1, 0, 1000, 1001);
        if (how < 4) {
            int day = random.nextInt(8) > 0 ? listed(stone) + START + random.nextInt(9) - 4
                    : anyOf(-1, 0, 10000000, 10000001);
            both("eclipse " + day, () -> x.eclipse(day), () -> plain.eclipse(day));
        } else if (how < 8) {
            boolean is = random.nextInt(4) > 0;
            both("names " + stone + " " + is, () -> bit(x.names(stone, is)), () -> bit(plain.names(stone, is)));
        } else {
            both("start " + near, () -> x.start(near), () -> plain.start(near));
            both("agrees " + near, () -> x.agrees(near), () -> plain.agrees(near));
        }
    }

    private void tapeAndCounts() {
        int what = random.nextInt(9) - 1;
        both("count " + what, () -> x.count(what), () -> plain.count(what));
        if (random.nextInt(6) == 0) {
            feed(new int[] {random.nextInt(), random.nextInt(), -1, 0, 0x6c6f7264});
        }
    }
}
