import java.util.List;
import java.util.Random;
import java.util.regex.Matcher;
import java.util.regex.Pattern;

/** Texts for the tests, and a reading of them by tokens that owes nothing to the program's own. */
final class Texts {
    static final List<String> WORDS =
            List.of("long", "number", "name", "seat", "month", "lord", "moon");
    private static final Pattern TOKEN = Pattern.compile(" *([a-z]+|[0-9]{1,2}|.|$)", Pattern.DOTALL);

    private final String text;
    private int at = 0;
    private String token = "";
    private int tokenAt = 0;

    private Texts(String text) {
        this.text = text;
    }

    /** The place of a text that is none; -1 for one that stands. */
    static int place(String text) {
        return new Texts(text).whole();
    }

    private void next() {
        Matcher m = TOKEN.matcher(text);
        if (!m.find(at)) {
            throw new AssertionError(text);
        }
        token = m.group(1);
        tokenAt = m.start(1);
        at = m.end(1);
    }

    private int whole() {
        next();
        int clauses = 0;
        while (!token.isEmpty()) {
            if (clauses == 12 || !WORDS.contains(token)) {
                return tokenAt;
            }
            clauses++;
            int parts = token.equals("long") ? 5 : 1;
            next();
            for (int i = 0; i < parts; i++) {
                int bad = part();
                if (bad >= 0) {
                    return bad;
                }
                if (!token.equals(i + 1 < parts ? "." : ";")) {
                    return tokenAt;
                }
                next();
            }
        }
        return -1;
    }

    private int part() {
        if (token.equals("?")) {
            next();
            return -1;
        }
        while (true) {
            if (!isNumber()) {
                return badNumber();
            }
            int low = Integer.parseInt(token);
            next();
            if (token.equals("-")) {
                next();
                if (!isNumber()) {
                    return badNumber();
                }
                if (Integer.parseInt(token) < low) {
                    return tokenAt;
                }
                next();
            }
            if (!token.equals("/")) {
                return -1;
            }
            next();
        }
    }

    private boolean isNumber() {
        return isDigit(tokenAt) && !(token.length() == 2 && isDigit(at));
    }

    private int badNumber() {
        return isDigit(tokenAt) ? at : tokenAt;
    }

    private boolean isDigit(int place) {
        return place < text.length() && text.charAt(place) >= '0' && text.charAt(place) <= '9';
    }

    static String make(Random random) {
        StringBuilder made = new StringBuilder();
        int clauses = random.nextInt(random.nextInt(8) == 0 ? 15 : 5);
        for (int i = 0; i < clauses; i++) {
            String word = WORDS.get(random.nextInt(WORDS.size()));
            made.append(blanks(random)).append(word).append(random.nextBoolean() ? " " : "");
            int parts = word.equals("long") ? 5 : 1;
            for (int p = 0; p < parts; p++) {
                made.append(p > 0 ? "." : "").append(blanks(random)).append(somePart(random)).append(blanks(random));
            }
            made.append(";");
        }
        return made.append(blanks(random)).toString();
    }

    private static String somePart(Random random) {
        if (random.nextInt(4) == 0) {
            return "?";
        }
        StringBuilder made = new StringBuilder();
        int ranges = 1 + random.nextInt(3);
        for (int i = 0; i < ranges; i++) {
            int low = random.nextInt(25);
            made.append(i > 0 ? "/" : "").append(low);
            if (random.nextInt(3) == 0) {
                made.append(blanks(random)).append("-").append(blanks(random))
                        .append(low + random.nextInt(12));
            }
        }
        return made.toString();
    }

    private static String blanks(Random random) {
        return " ".repeat(random.nextInt(6) == 0 ? random.nextInt(3) : 0);
    }

    /** Puts in, takes out or changes a byte or two, mostly of those that the grammar knows. */
    static String spoil(String text, Random random) {
        String signs = "0123456789 ;;../--??longmbertsahd";
        StringBuilder made = new StringBuilder(text);
        int faults = random.nextInt(3);
        for (int i = 0; i < faults; i++) {
            int where = random.nextInt(made.length() + 1);
            char sign = random.nextInt(12) == 0
                    ? (char) random.nextInt(256) : signs.charAt(random.nextInt(signs.length()));
            int how = random.nextInt(3);
            if (how == 0 || where == made.length()) {
                made.insert(where, sign);
            } else if (how == 1) {
                made.deleteCharAt(where);
            } else {
                made.setCharAt(where, sign);
            }
        }
        return made.toString();
    }
}
