import java.util.Random;

/** Promises 5 and 6: the tape, and which texts are stones. */
public final class TapeTest {
    public static void main(String[] args) {
        tape();
        tapeOfStone();
        places();
        tails();
        standing();
        limits();
        randomTexts();
        Check.end("TapeTest");
    }

    private static void tape() {
        StoneDates x = Check.withTown(0);
        for (int i = 1; i <= 10; i++) {
            Check.due("feed " + i, x.feed(0x20202020, 0x20202020, 0x20202020, 0x20202020, 0x20202020), 20 * i);
        }
        Check.due("an 11th feed", x.feed(0, 0, 0, 0, 0), StoneDates.NONE);
        Check.due("bytes", x.count(5), 200);
        Check.due("200 blanks", x.stone(0, 200), 0);
        Check.due("bytes then", x.count(5), 0);
        x.feed(0x6c6f7264, 0x20313b3b, -1, 0x80808080, 0);
        Check.due("highest first", x.stone(0, 9), -2 - 7);
        x.feed(0x6c6f7264, 0x20313b20, -1, 0, 0);
        Check.due("a byte of 255", x.stone(0, 9), -2 - 8);
        x.feed(0x6c6f7264, 0x20313b20, -1, 0, 0);
        Check.due("ahead of it", x.stone(0, 8), 1);
        Check.due("lord 1", x.many(1), 48000);
    }

    private static void tapeOfStone() {
        StoneDates x = Check.withTown(0);
        Check.feed(x, "lord 1;");
        Check.refused("stone(1, 7)", Check.INDEX, () -> x.stone(1, 7));
        Check.refused("stone(-1, 7)", Check.INDEX, () -> x.stone(-1, 7));
        Check.refused("stone(1, 21)", Check.INDEX, () -> x.stone(1, 21));
        Check.refused("stone(0, -1)", Check.ARGUMENT, () -> x.stone(0, -1));
        Check.refused("stone(0, 21)", Check.ARGUMENT, () -> x.stone(0, 21));
        Check.refused("stone(0, greatest)", Check.ARGUMENT, () -> x.stone(0, Integer.MAX_VALUE));
        Check.due("a refused call takes no bytes", x.count(5), 20);
        Check.due("stone(0, 20)", x.stone(0, 20), -2 - 7);
        Check.due("a text that is none takes them", x.count(5), 0);
        Check.due("and is no stone", x.count(1), 0);
        Check.feed(x, "lord 1;");
        Check.due("stone(0, 0)", x.stone(0, 0), 0);
        Check.due("no byte stays behind", x.count(5), 0);
        Check.due("the empty text", x.many(0), 432000);
    }

    private static void places() {
        Check.place("long 9.9.16.0;", 13);
        Check.place("long 9.9.16.0.0.0;", 15);
        Check.place("long", 4);
        Check.place("long 9", 6);
        Check.place("long 9.9.16.0", 13);
        Check.place("long 9.9lord 1;", 8);
        Check.place("long 9.9/.9.9.9;", 9);
        Check.place("long 9.9.16.0.0", 15);
        Check.place("long 9.9.16.0.0  ", 17);
        Check.place("number", 6);
        Check.place("number;", 6);
        Check.place("number 123;", 9);
        Check.place("number 1-123;", 11);
        Check.place("number 99-123;", 12);
        Check.place("number 5-3;", 9);
        Check.place("number 5 -  3;", 12);
        Check.place("number 10-9;", 10);
        Check.place("number 1/5-3;", 11);
        Check.place("number 1-2-3;", 10);
        Check.place("number 5/;", 9);
        Check.place("number 5//6;", 9);
        Check.place("number -5;", 7);
        Check.place("number 5.", 8);
        Check.place("name ?/3;", 6);
        Check.place("name ??;", 6);
        Check.place("name 3/?;", 7);
        Check.place("name 3-?;", 7);
        Check.place("name 3?;", 6);
        Check.place("lord 3", 6);
        Check.place("day 3;", 0);
        Check.place("  day 3;", 2);
        Check.place("lord 3;day 3;", 7);
        Check.place("Long 9.9.9.9.9;", 0);
        Check.place("lOng 9.9.9.9.9;", 0);
        Check.place("longs 1", 0);
        Check.place("lordz 1;", 0);
        Check.place("lorda 1;", 0);
        Check.place("lord`1;", 4);
        Check.place("lord{1;", 4);
        Check.place("number 1:;", 8);
        Check.place("lon 1", 0);
        Check.place("moon 1 2;", 7);
        Check.place("month 1/2/3-4/?;", 14);
        Check.place(";", 0);
        Check.place("lord 1;;", 7);
        Check.place("3", 0);
        Check.place("lord\t1;", 4);
        Check.place("lord 1;\n", 7);
        Check.place("lordlord 1;", 0);
        Check.place("lord lord 1;", 5);
        Check.place("lord 1;".repeat(13), 84);
        Check.place("lord 1;".repeat(12) + "  lord 1;", 86);
        Check.place("lord 1;".repeat(12) + " x", 85);
        Check.place("lord 1;".repeat(12) + ";", 84);
        Check.place("lord 1;".repeat(11) + "lord 1", 83);
    }

    /** Bytes of the tape behind the text are no part of it. */
    private static void cut(String text, String behind, int want) {
        StoneDates x = Check.withTown(0);
        Check.feed(x, text + behind);
        Check.due("'" + text + "' ahead of '" + behind + "'", x.stone(0, text.length()), want);
    }

    private static void tails() {
        cut("lord 1", ";", -2 - 6);
        cut("lord ", "1;", -2 - 5);
        cut("lord", "s", -2 - 4);
        cut("lor", "d 1;", -2);
        cut("lord 1;", "x", 0);
        cut("lord 1; ", "lord 2;", 0);
        cut("lord 12", "3;", -2 - 7);
        cut("lord 5-1", "0;", -2 - 7);
        cut("lord 5", "-1;", -2 - 6);
        cut("long 1.1.1.1", ".1;", -2 - 12);
    }

    private static void standing() {
        Check.stands("", 432000);
        Check.stands("   ", 432000);
        Check.stands("lord1;", 48000);
        Check.stands("lord ? ;", 432000);
        Check.stands(" lord 1 ; ", 48000);
        Check.stands("lord 01;", 48000);
        Check.stands("lord 1/1;", 48000);
        Check.stands("lord 1-1;", 48000);
        Check.stands("lord 0-99;", 432000);
        Check.stands("lord 0/10-99;", 0);
        Check.stands("lord 9/1-2/5;", 48000 * 4);
        Check.stands("lord 1-2 / 3 - 4;", 48000 * 4);
        Check.stands("lord 1;lord 2;", 0);
        Check.stands("lord 1-5;lord 5-9;", 48000);
        Check.stands("long 9 . 9 . 16 . 0 . 0 ;", 1);
        Check.stands("long9.9.16.0.0;", 1);
        Check.stands("long 09.09.16.00.00;", 1);
        Check.stands("lord 1;".repeat(12) + "   ", 48000);
        Check.stands("lord 31;", 0);
        Check.stands("lord 32;", 0);
        Check.stands("lord 33;", 0);
        Check.stands("lord 64-65;", 0);
    }

    private static void limits() {
        StoneDates x = Check.withTown(0);
        for (int i = 0; i < 30; i++) {
            Check.due("stone " + i, x.stone(0, 0), i);
        }
        Check.refused("a 31st stone", Check.STATE, () -> x.stone(0, 0));
        Check.feed(x, "nothing");
        Check.refused("a 31st text that is none", Check.STATE, () -> x.stone(0, 7));
        Check.refused("31st: n", Check.ARGUMENT, () -> x.stone(0, 21));
        Check.refused("31st: town", Check.INDEX, () -> x.stone(1, 21));
        Check.due("bytes stay", x.count(5), 20);
        Check.due("stones", x.count(1), 30);
    }

    /** Texts near the grammar, each held against another way of reading. */
    private static void randomTexts() {
        Random random = new Random(5);
        for (int round = 0; round < 4000; round++) {
            String text = Texts.spoil(Texts.make(random), random);
            if (text.length() > 200) {
                continue;
            }
            int want = Texts.place(text);
            StoneDates x = Check.withTown(3);
            Check.due("'" + text + "'", Check.stone(x, 0, text), want < 0 ? 0 : -2 - want);
        }
    }
}
