/** Boundary cases of promises 5 and 6, sentence by sentence, with the texts of "Terms". */
public final class EdgeTapeTest {
    private static final String LAST_DAY = "long 10.19.19.17.19;";
    private static final int BLANKS = 0x20202020;

    public static void main(String[] args) {
        feedCounts();
        feedOrder();
        feedFull();
        feedFullDoesNothing();
        feedAfterStone();
        stoneTakesTheFirst();
        stoneEmptiesTheTape();
        stoneNumbers();
        stonePlaces();
        stoneWrongN();
        stonesAreThirty();
        stoneNoSuchTown();
        stoneFirstException();
        stoneRefusedChangesNothing();
        textOfClauses();
        textOfLong();
        textOfPart();
        textOfRange();
        textOfNumber();
        textOfWord();
        textOfBlanks();
        textOfTwelve();
        textOfOtherBytes();
        Check.end("EdgeTapeTest");
    }

    private static StoneDates withBlanks(int feeds) {
        StoneDates x = Check.withTown(0);
        for (int i = 0; i < feeds; i++) {
            x.feed(BLANKS, BLANKS, BLANKS, BLANKS, BLANKS);
        }
        return x;
    }

    /** Promise 5: "Twenty bytes come on the TAPE .. how many there are". */
    private static void feedCounts() {
        StoneDates x = new StoneDates();
        for (int i = 1; i <= 10; i++) {
            Check.due("feed " + i, x.feed(0, -1, Integer.MIN_VALUE, Integer.MAX_VALUE, i), 20 * i);
            Check.due("bytes then", x.count(5), 20 * i);
        }
    }

    /** Promise 5: "of each number the highest first". */
    private static void feedOrder() {
        StoneDates x = Check.withTown(0);
        x.feed(0x6c6f6e67, 0x2031302e, 0x31392e31, 0x392e3137, 0x2e31393b);
        Check.due("twenty bytes in order", x.stone(0, 20), 0);
        Check.due("as they should read", x.day(0, 0), 1583999);
        for (int at = 0; at < 20; at++) {
            int[] given = {BLANKS, BLANKS, BLANKS, BLANKS, BLANKS};
            given[at / 4] ^= 0x21000000 >>> at % 4 * 8;
            StoneDates y = Check.withTown(0);
            y.feed(given[0], given[1], given[2], given[3], given[4]);
            Check.due("a byte 1 at " + at, y.stone(0, 20), -2 - at);
            given[at / 4] ^= 0xfe000000 >>> at % 4 * 8;
            StoneDates z = Check.withTown(0);
            z.feed(given[0], given[1], given[2], given[3], given[4]);
            Check.due("a byte 255 at " + at, z.stone(0, 20), -2 - at);
        }
    }

    /** Promise 5: "NONE .. if there would be more than 200". */
    private static void feedFull() {
        StoneDates x = withBlanks(9);
        Check.due("180 bytes", x.count(5), 180);
        Check.due("200 are not more than 200", x.feed(1, 1, 1, 1, 1), 200);
        Check.due("220 would be", x.feed(1, 1, 1, 1, 1), -1);
        Check.due("and still", x.feed(0, 0, 0, 0, 0), -1);
        Check.due("bytes", x.count(5), 200);
    }

    /** Promise 5: "doing nothing". */
    private static void feedFullDoesNothing() {
        StoneDates x = withBlanks(9);
        Check.feed(x, LAST_DAY);
        Check.due("a feed too many", x.feed(-1, -1, -1, -1, -1), -1);
        Check.due("all bytes are there yet", x.stone(0, 200), 0);
        Check.due("the first ones and the last", x.day(0, 0), 1583999);
        Answers.changesNothing("a feed too many", () -> {
            StoneDates y = Check.withTown(0);
            Check.feed(y, LAST_DAY + " ".repeat(180));
            return y;
        }, y -> Check.due("an 11th feed", y.feed(1, 2, 3, 4, 5), -1));
    }

    /** A full tape that a stone has emptied takes 200 bytes again, and has none of the old ones. */
    private static void feedAfterStone() {
        StoneDates x = withBlanks(10);
        Check.due("full", x.feed(0, 0, 0, 0, 0), -1);
        Check.due("a stone of it", x.stone(0, 200), 0);
        for (int i = 1; i <= 10; i++) {
            Check.due("feed anew " + i, x.feed(-1, -1, -1, -1, -1), 20 * i);
        }
        Check.due("full anew", x.feed(0, 0, 0, 0, 0), -1);
        Check.due("the new bytes", x.stone(0, 200), -2);
    }

    /** Promise 6: "The first n bytes of the TAPE". */
    private static void stoneTakesTheFirst() {
        String text = "lord 1;lord 2;zzzzzz";
        int[] want = {0, -2, -2, -2, -6, -7, -8, 0, -9, -9, -9, -13, -14, -15, 0, -16, -16, -16, -16, -16, -16};
        for (int n = 0; n <= 20; n++) {
            StoneDates x = Check.withTown(0);
            Check.feed(x, text);
            Check.due("the first " + n + " of '" + text + "'", x.stone(0, n), want[n]);
        }
    }

    /** Promise 6: "(empty then)", whatever n is and whether the text stands. */
    private static void stoneEmptiesTheTape() {
        int[] some = {0, 1, 7, 199, 200};
        for (int n : some) {
            StoneDates x = Check.withTown(0);
            Check.feed(x, "lord 1;" + " ".repeat(193));
            Check.due("n = " + n, x.stone(0, n), n == 1 ? -2 : 0);
            Check.due("empty behind n = " + n, x.count(5), 0);
            Check.due("of no bytes", x.stone(0, 0), n == 1 ? 0 : 1);
            Check.refused("one byte", Check.ARGUMENT, () -> x.stone(0, 1));
        }
    }

    /** Promise 6: "its number" ("STONES, numbered from 0 on"): a text that is none takes no number. */
    private static void stoneNumbers() {
        StoneDates x = Check.withTown(0);
        for (int i = 0; i < 30; i++) {
            Check.due("no stone", Check.stone(x, 0, ";"), -2);
            Check.due("stones ahead of " + i, x.count(1), i);
            Check.due("stone number " + i, Check.stone(x, 0, "lord " + i + ";"), i);
        }
        Check.due("of the first", x.many(0), 0);
        Check.due("of the second", x.many(1), 48000);
        Check.due("of the tenth", x.many(9), 48000);
        Check.due("of the last", x.many(29), 0);
    }

    /** Promise 6: "or -2 less its PLACE" ("the end: its length"). */
    private static void stonePlaces() {
        Check.place(";", 0);
        Check.place(" ;", 1);
        Check.place(" ".repeat(199) + ";", 199);
        Check.place(" ".repeat(195) + "lord ", 200);
        Check.place("lord" + " ".repeat(196), 200);
        Check.place("lord 1" + " ".repeat(193) + "1", 199);
        Check.place("lord" + " ".repeat(194) + "11", 200);
        Check.place(" ".repeat(196) + "lor;", 196);
        Check.place("lord", 4);
        Check.place("lord ", 5);
        Check.place("lord 1", 6);
        Check.place("lord 1-", 7);
        Check.place("lord 1/", 7);
        Check.place("lord 1-2", 8);
        Check.place("lord ?", 6);
        Check.place("long 1.", 7);
        Check.place("long ?.?.?.?.", 13);
        Check.place("long ?.?.?.?.?", 14);
    }

    /** Promise 6: "IllegalArgumentException: n is not 0 to the TAPE's bytes". */
    private static void stoneWrongN() {
        StoneDates x = Check.withTown(0);
        int[] none = {-1, 1, 20, 200, 201, Integer.MIN_VALUE, Integer.MAX_VALUE};
        for (int n : none) {
            Check.refused("no bytes, n = " + n, Check.ARGUMENT, () -> x.stone(0, n));
        }
        Check.due("no bytes, n = 0", x.stone(0, 0), 0);
        x.feed(BLANKS, BLANKS, BLANKS, BLANKS, BLANKS);
        int[] tooMany = {-1, 21, 40, 200, Integer.MIN_VALUE, Integer.MAX_VALUE};
        for (int n : tooMany) {
            Check.refused("20 bytes, n = " + n, Check.ARGUMENT, () -> x.stone(0, n));
        }
        Check.due("20 bytes, n = 20", x.stone(0, 20), 1);
        StoneDates full = withBlanks(10);
        Check.refused("200 bytes, n = 201", Check.ARGUMENT, () -> full.stone(0, 201));
        Check.refused("200 bytes, n = -1", Check.ARGUMENT, () -> full.stone(0, -1));
        Check.due("200 bytes, n = 200", full.stone(0, 200), 0);
    }

    private static StoneDates thirtyStones() {
        StoneDates x = Check.withTown(0);
        for (int i = 0; i < 30; i++) {
            Check.stone(x, 0, "long 8.0.0.0." + i % 20 + ";");
        }
        return x;
    }

    /** Promise 6: "IllegalStateException: there are 30." */
    private static void stonesAreThirty() {
        StoneDates x = thirtyStones();
        Check.due("thirty", x.count(1), 30);
        Check.refused("a 31st of no bytes", Check.STATE, () -> x.stone(0, 0));
        Check.feed(x, "lord 1;");
        Check.refused("a 31st that would stand", Check.STATE, () -> x.stone(0, 7));
        Check.refused("a 31st that would not", Check.STATE, () -> x.stone(0, 6));
        Check.due("thirty still", x.count(1), 30);
        Check.due("the last is of use", x.day(29, 0), 1152009);
        Check.refused("a 31st is not", Check.INDEX, () -> x.day(30, 0));
    }

    /** Promise 6: no such TOWN. */
    private static void stoneNoSuchTown() {
        StoneDates x = Check.withTown(0);
        x.town(1);
        int[] none = {-1, 2, 9, 10, Integer.MIN_VALUE, Integer.MAX_VALUE};
        for (int town : none) {
            Check.refused("stone of town " + town, Check.INDEX, () -> x.stone(town, 0));
        }
        Check.due("of the first town", x.stone(0, 0), 0);
        Check.due("of the last town", x.stone(1, 0), 1);
    }

    /** The exceptions in the order in which the head and the promise name them. */
    private static void stoneFirstException() {
        StoneDates x = thirtyStones();
        Check.refused("town, n and 30", Check.INDEX, () -> x.stone(1, 1));
        Check.refused("town and 30", Check.INDEX, () -> x.stone(-1, 0));
        Check.refused("n and 30", Check.ARGUMENT, () -> x.stone(0, 1));
        Check.refused("-1 and 30", Check.ARGUMENT, () -> x.stone(0, -1));
        Check.refused("town and n", Check.INDEX, () -> Check.withTown(0).stone(1, 1));
    }

    private static StoneDates withTape() {
        StoneDates x = Check.withTown(0);
        Check.stone(x, 0, "long 8.0.0.0.0;");
        Check.feed(x, "lord 1;             ");
        return x;
    }

    private static void stoneRefusedChangesNothing() {
        Answers.changesNothing("stone(1, 7)", EdgeTapeTest::withTape,
                x -> Check.refused("stone(1, 7)", Check.INDEX, () -> x.stone(1, 7)));
        Answers.changesNothing("stone(0, 21)", EdgeTapeTest::withTape,
                x -> Check.refused("stone(0, 21)", Check.ARGUMENT, () -> x.stone(0, 21)));
        Answers.changesNothing("stone(0, -1)", EdgeTapeTest::withTape,
                x -> Check.refused("stone(0, -1)", Check.ARGUMENT, () -> x.stone(0, -1)));
        Answers.changesNothing("a 31st", EdgeTapeTest::thirtyStones,
                x -> Check.refused("a 31st", Check.STATE, () -> x.stone(0, 0)));
        Answers.changesNothing("a text that is none, but for the tape", () -> Check.withTown(0),
                x -> Check.due("a text that is none", Check.stone(x, 0, "lord 1;lord 2"), -2 - 13));
    }

    /** "by a text: { CLAUSE ";" }": none, one, more; each with its ";". */
    private static void textOfClauses() {
        Check.stands("", 432000);
        Check.stands("lord 1;", 48000);
        Check.stands("lord 1;lord 1;", 48000);
        Check.place("lord 1", 6);
        Check.place("lord 1;lord 1", 13);
        Check.place("lord 1 lord 1;", 7);
        Check.place("lord 1;;", 7);
        Check.place(";lord 1;", 0);
        Check.place("lord ;", 5);
        Check.place("lord 1.;", 6);
        Check.place("lord 1,", 6);
    }

    /** ""long" P "." P "." P "." P "." P": four are too few, six too many. */
    private static void textOfLong() {
        Check.stands("long ?.?.?.?.?;", 432000);
        Check.stands("long 8.0.0.0.0;", 1);
        Check.stands(LAST_DAY, 1);
        Check.place("long ?;", 6);
        Check.place("long ?.?.?.?;", 12);
        Check.place("long ?.?.?.?.?.?;", 14);
        Check.place("long .?.?.?.?;", 5);
        Check.place("long ?..?.?.?;", 7);
        Check.place("long ?.?.?.?.;", 13);
        Check.place("long ?.?.?.?.?.;", 14);
        Check.place("long 8.0.0.0.0-;", 15);
        Check.place("number ?.?;", 8);
    }

    /** "P: "?" (whatever it is), or A { "/" A } (one of these)". */
    private static void textOfPart() {
        Check.stands("lord ?;", 432000);
        Check.stands("lord 1;", 48000);
        Check.stands("lord 1/2;", 96000);
        Check.stands("lord 1/2/3/4/5/6/7/8/9;", 432000);
        Check.stands("lord " + "1/".repeat(96) + "2;", 96000);
        Check.stands("lord" + "1/".repeat(97) + "9;", 96000);
        Check.place("lord" + "1/".repeat(98), 200);
        Check.place("lord /1;", 5);
        Check.place("lord 1/;", 7);
        Check.place("lord 1//2;", 7);
        Check.place("lord ?/1;", 6);
        Check.place("lord 1/?;", 7);
        Check.place("lord ??;", 6);
        Check.place("lord ?1;", 6);
        Check.place("lord 1?;", 6);
        Check.place("lord ?-1;", 6);
    }

    /** "N "-" N (from .. to, both in; the second not below the first)", else the second's first byte. */
    private static void textOfRange() {
        Check.stands("lord 2-3;", 96000);
        Check.stands("lord 3-3;", 48000);
        Check.stands("lord 0-0;", 0);
        Check.stands("lord 99-99;", 0);
        Check.stands("lord 0-99;", 432000);
        Check.stands("lord 9-10;", 48000);
        Check.stands("lord 09-9;", 48000);
        Check.stands("lord 1-2/8-9;", 192000);
        Check.stands("lord 1-5/3-7;", 336000);
        Check.place("lord 3-2;", 7);
        Check.place("lord 10-9;", 8);
        Check.place("lord 10-09;", 8);
        Check.place("lord 99-98;", 8);
        Check.place("lord 1-0;", 7);
        Check.place("lord 3 -  2;", 10);
        Check.place("lord 1/3-2;", 9);
        Check.place("lord 3-2", 7);
        Check.place("lord 3-2-1;", 7);
        Check.place("lord 1-2-3;", 8);
        Check.place("lord 1--2;", 7);
        Check.place("lord -2;", 5);
        Check.place("lord 1-;", 7);
    }

    /** "a NUMBER of one to two digits (as many as stand there; a third can't)". */
    private static void textOfNumber() {
        Check.stands("lord 1;", 48000);
        Check.stands("lord 01;", 48000);
        Check.stands("lord 0;", 0);
        Check.stands("lord 00;", 0);
        Check.stands("lord 99;", 0);
        Check.place("lord 001;", 7);
        Check.place("lord 100;", 7);
        Check.place("lord 1000;", 7);
        Check.place("lord 1-100;", 9);
        Check.place("lord 100-1;", 7);
        Check.place("lord 1/100;", 9);
        Check.place("lord 1 0;", 7);
        Check.place("lord /;", 5);
        Check.place("lord :;", 5);
        Check.place("lord 1:;", 6);
    }

    /** "WORDS are small letters, as many as stand there": a WORD that can't has its first byte as PLACE. */
    private static void textOfWord() {
        String[] words = {"long", "number", "name", "seat", "month", "lord", "moon"};
        for (String word : words) {
            String part = word.equals("long") ? "?.?.?.?.?;" : "?;";
            Check.stands(word + part, 432000);
            Check.stands(word + " " + part, 432000);
            Check.place("  " + word + "a " + part, 2);
            Check.place("  a" + word + part, 2);
            Check.place("  " + word.substring(1) + part, 2);
            Check.place("  " + word.substring(0, word.length() - 1) + part, 2);
            Check.place("  " + word.substring(0, word.length() - 1), 2);
            Check.place("  " + word.toUpperCase() + part, 2);
            Check.place(word + "A" + part, word.length());
            Check.place(word + "`" + part, word.length());
            Check.place(word + "{" + part, word.length());
            Check.place(word, word.length());
            Check.place(word + word + part, 0);
            for (int i = 0; i < word.length(); i++) {
                Check.place("  " + word.substring(0, i) + "z" + word.substring(i + 1) + part, 2);
            }
        }
        Check.place("a", 0);
        Check.place("z", 0);
        Check.place("mon th 1;", 0);
        Check.place("z".repeat(200), 0);
    }

    /** "blanks (32) may stand ahead of all these, and at the end". */
    private static void textOfBlanks() {
        Check.stands(" ", 432000);
        Check.stands(" ".repeat(200), 432000);
        Check.stands("  lord  1  -  2  /  5  ;  lord  ?  ;  ", 144000);
        Check.stands("  long  8  .  0  .  0  .  0  .  0  ;  ", 1);
        Check.stands("lord 1;" + " ".repeat(193), 48000);
        Check.stands(" ".repeat(193) + "lord 1;", 48000);
        Check.stands("lord" + " ".repeat(194) + "1;", 48000);
        Check.place("lo rd 1;", 0);
        Check.place("lord 1 1;", 7);
    }

    /** "At most 12 CLAUSES": a 13th has its first byte as PLACE. */
    private static void textOfTwelve() {
        String eleven = "lord 1;".repeat(11);
        Check.stands(eleven, 48000);
        Check.stands(eleven + "lord 2;", 0);
        Check.stands(eleven + "lord 1;  ", 48000);
        Check.place(eleven + "lord 1;lord 1;", 84);
        Check.place(eleven + "lord 1;   lord 1;", 87);
        Check.place(eleven + "lord 1;l", 84);
        Check.place(eleven + "lord 1;lord 1;lord 1;", 84);
        Check.place(eleven + "lord 1", 83);
        Check.place(eleven + "lord 1,lord 1;", 83);
        Check.place("lord 1;".repeat(28) + "lord", 84);
        Check.stands("long ?.?.?.?.?;".repeat(12), 432000);
        Check.place("long ?.?.?.?.?;".repeat(13), 180);
    }

    /** "that of the first byte that can't stand there": of all bytes, but 32, none may stand at the end. */
    private static void textOfOtherBytes() {
        for (int sign = 0; sign <= 255; sign++) {
            String text = "lord 1;" + (char) sign;
            if (sign == 32) {
                Check.stands(text, 48000);
            } else {
                Check.place(text, 7);
            }
            boolean isDigit = sign >= '0' && sign <= '9';
            Check.place("lord" + (char) sign, sign >= 'a' && sign <= 'z' ? 0 : sign == 32 || sign == '?' || isDigit ? 5 : 4);
        }
    }
}
