/** All that an object answers, as one text, so that two objects can be held against each other. */
final class Answers {
    interface Making {
        StoneDates make();
    }

    interface Refusing {
        void call(StoneDates x);
    }

    private final StoneDates x;
    private final StringBuilder text = new StringBuilder();

    private Answers(StoneDates x) {
        this.x = x;
    }

    /** Makes two objects alike, makes the calls on one of them, and asks both for all there is. */
    static void changesNothing(String what, Making making, Refusing refusing) {
        StoneDates touched = making.make();
        refusing.call(touched);
        String got = of(touched);
        String want = of(making.make());
        Check.due(what + " changes nothing" + (got.equals(want) ? "" : ": " + got + " for " + want),
                got.equals(want), true);
    }

    /** Some 230 calls at most, with calls at the end that change the object. */
    static String of(StoneDates x) {
        Answers all = new Answers(x);
        all.askCounts();
        all.askStones();
        all.askNetAndSky();
        all.goOn();
        return all.text.toString();
    }

    private void ask(String name, Check.Call call) {
        String got;
        try {
            got = String.valueOf(call.run());
        } catch (RuntimeException e) {
            got = e.getClass().getSimpleName();
        }
        text.append(name).append('=').append(got).append(' ');
    }

    private void askCounts() {
        for (int what = 0; what <= 6; what++) {
            int w = what;
            ask("count" + w, () -> x.count(w));
        }
        for (int town = 0; town <= 10; town++) {
            int t = town;
            ask("moon" + t, () -> x.moon(1366560, t));
        }
    }

    private void askStones() {
        for (int stone = 0; stone <= x.count(1); stone++) {
            int s = stone;
            ask("many" + s, () -> x.many(s));
            ask("first" + s, () -> x.day(s, 0));
            ask("later" + s, () -> x.day(s, 1));
            ask("settled" + s, () -> x.settled(s));
            ask("settledFirst" + s, () -> x.settledDay(s, 0));
            ask("settledLater" + s, () -> x.settledDay(s, 1));
        }
    }

    private void askNetAndSky() {
        ask("least", () -> x.least());
        for (int i = 0; i <= 12; i++) {
            int k = i;
            ask("wrong" + k, () -> x.wrong(k));
        }
        int[] nears = {0, 1000};
        for (int near : nears) {
            ask("start" + near, () -> x.start(near));
            ask("agrees" + near, () -> x.agrees(near));
        }
    }

    private void goOn() {
        int before = x.count(1);
        ask("tape", () -> x.stone(0, x.count(5)));
        ask("its many", () -> x.many(before));
        ask("feed", () -> x.feed(1, 2, 3, 4, 5));
        ask("town", () -> x.town(17));
        ask("distance", () -> x.distance(0, 1, 0));
        ask("eclipse", () -> x.eclipse(123456));
        ask("names", () -> x.names(0, true) ? 1 : 0);
    }
}
