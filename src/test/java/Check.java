import java.nio.charset.StandardCharsets;

/** What the tests share: counting answers that are not as due, and putting texts on the tape. */
final class Check {
    interface Call {
        long run();
    }

    static final Class<? extends RuntimeException> ARGUMENT = IllegalArgumentException.class;
    static final Class<? extends RuntimeException> STATE = IllegalStateException.class;
    static final Class<? extends RuntimeException> INDEX = IndexOutOfBoundsException.class;

    private static int asked = 0;
    private static int wrong = 0;

    private Check() {
    }

    static void due(String what, long got, long want) {
        asked++;
        if (got != want) {
            wrong++;
            System.out.println(what + " answered " + got + ", due is " + want);
        }
    }

    static void due(String what, boolean got, boolean want) {
        due(what, got ? 1 : 0, want ? 1 : 0);
    }

    /** The exception must be of the very class: one that the machine throws would be below it. */
    static void refused(String what, Class<? extends RuntimeException> want, Call call) {
        asked++;
        String got = "an answer";
        try {
            call.run();
        } catch (RuntimeException e) {
            got = e.getClass().getSimpleName();
        }
        if (!got.equals(want.getSimpleName())) {
            wrong++;
            System.out.println(what + " gave " + got + ", due is " + want.getSimpleName());
        }
    }

    /** Two calls that must give the same answer, or the same exception. */
    static void same(String what, Call call, Call model) {
        String got = outcome(call);
        String want = outcome(model);
        asked++;
        if (!got.equals(want)) {
            wrong++;
            System.out.println(what + " gave " + got + ", due is " + want);
        }
    }

    private static String outcome(Call call) {
        try {
            return String.valueOf(call.run());
        } catch (IllegalArgumentException | IllegalStateException | IndexOutOfBoundsException e) {
            return e.getClass().getSimpleName();
        }
    }

    static void feed(StoneDates x, String text) {
        byte[] bytes = text.getBytes(StandardCharsets.ISO_8859_1);
        for (int from = 0; from < bytes.length; from += 20) {
            int[] fives = new int[5];
            for (int i = 0; i < 20; i++) {
                int b = from + i < bytes.length ? bytes[from + i] & 255 : 0;
                fives[i / 4] = fives[i / 4] << 8 | b;
            }
            x.feed(fives[0], fives[1], fives[2], fives[3], fives[4]);
        }
    }

    static int stone(StoneDates x, int town, String text) {
        feed(x, text);
        return x.stone(town, text.length());
    }

    /** A text that is none, with its place. */
    static void place(String text, int want) {
        due("'" + text + "'", stone(withTown(0), 0, text), -2 - want);
    }

    /** A text that stands, with how many days its list has in a town of base 0. */
    static void stands(String text, int many) {
        StoneDates x = withTown(0);
        due("'" + text + "'", stone(x, 0, text), 0);
        due("many '" + text + "'", x.count(1) == 1 ? x.many(0) : -9, many);
    }

    static StoneDates withTown(int base) {
        StoneDates x = new StoneDates();
        x.town(base);
        return x;
    }

    static void end(String name) {
        System.out.println(name + ": " + asked + " answers asked, " + wrong + " not as due");
        if (wrong != 0 || asked == 0) {
            System.exit(1);
        }
    }
}
