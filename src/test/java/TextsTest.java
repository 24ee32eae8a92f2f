/** Promises 23 to 26: texts. */
final class TextsTest {
    private static final int BAD = -1, NOT = -2, FULL = -3;
    private static final Check check = new Check();

    public static void main(String[] args) {
        feed();
        wipe();
        read();
        faults();
        faultsChangeNothing();
        spell();
        check.end();
    }

    private static void feed() {
        CutDistances x = new CutDistances();
        check.due("23 n below", x.feed(1, 0), BAD);
        check.due("23 n above", x.feed(1, 5), BAD);
        check.due("23 least n", x.feed(1, Integer.MIN_VALUE), BAD);
        check.due("23 highest first", x.feed('2' << 16 | ';' << 8 | '7', 3), 3);
        check.due("23 and read", x.read(), 2);
        check.due("23 its distance", x.at(0, 1), 7);
        check.due("23 only the lowest", x.feed('9' << 24 | '9' << 16 | '2' << 8 | ';', 2), 2);
        check.due("23 behind", x.feed(-256 | '8', 1), 3);
        check.due("23 and read again", x.read(), 2);
        check.due("23 its distance again", x.at(0, 1), 8);
        for (int k = 1; k <= 19; k++) {
            check.due("23 how many", x.feed(-1, 4), 4 * k);
        }
        check.due("23 up to 78", x.feed(0, 2), 78);
        check.due("23 no room for 3", x.feed(0, 3), FULL);
        check.due("23 none came", x.count(4), 78);
        check.due("23 bad ahead of full", x.feed(0, 5), BAD);
        check.due("23 just full", x.feed(0, 2), 80);
        check.due("23 full", x.feed(0, 1), FULL);
        check.due("23 a fault only when it is read", x.read(), -1000);
        check.due("25 empty then", x.count(4), 0);
    }

    private static void wipe() {
        CutDistances x = new CutDistances();
        check.due("24 empty", x.wipe(), 0);
        x.feed(0, 4);
        check.due("24 four", x.wipe(), 4);
        check.due("24 empty then", x.wipe(), 0);
        check.due("24 nothing to read", x.read(), -1000);
    }

    private static void read() {
        CutDistances x = new CutDistances();
        check.due("25 N", Texts.read(x, "6;1;2,3;4,5,6;7,8,9,10;11,12,13,14,999"), 6);
        check.due("25 of 1 and 3", x.at(1, 3), 5);
        check.due("25 of 0 and 5", x.at(0, 5), 11);
        check.due("25 of 4 and 5", x.at(4, 5), 999);
        check.due("25 of 2 and 4", x.at(2, 4), 9);
        check.due("25 a deed", x.count(3), 1);
        check.due("25 the tape is empty", x.count(4), 0);
        check.due("25 with 0 ahead", Texts.read(x, "3;007;00,010"), 3);
        check.due("25 seven", x.at(0, 1), 7);
        check.due("25 nought", x.at(0, 2), 0);
        check.due("25 ten", x.at(1, 2), 10);
        check.due("25 the same again", Texts.read(x, "3;7;0,10"), 3);
        check.due("25 is no deed", x.count(3), 2);
        check.due("25 the longest",
            Texts.read(x, "6;999;999,999;999,999,999;999,999,999,999;999,999,999,999,999"), 6);
        check.due("25 all of them", x.count(2), 15 * 999);
    }

    private static void faults() {
        CutDistances x = new CutDistances();
        String[] texts = {
            "", "1;", "7;", "x", ";", "2", "2x", "2,", "2;", "2;x", "2;;", "2;,", "2;1;", "2;1,", "2;1x", "2;1234",
            "2;12 ", "3;1", "3;1,", "3;1;1;", "3;1;1", "3;1;1,", "3;1;,", "3;1;1,2,", "3;1;1,2;", "3;1;1,2x",
            "3;1;1,0004", "22;1", "2;-1", "2;+1", "2;1/", "2;1:", "2;/", "2;:",
        };
        int[] due = {
            0, 0, 0, 0, 0, 1, 1, 1, 2, 2, 2, 2, 3, 3, 3, 5,
            4, 3, 3, 5, 5, 6, 4, 7, 7, 7,
            9, 1, 2, 2, 3, 3, 2, 2,
        };
        check.due("25 as many", texts.length, due.length);
        for (int k = 0; k < texts.length; k++) {
            check.due("25 fault of '" + texts[k] + "'", Texts.read(x, texts[k]), -1000 - due[k]);
        }
        x.feed('2' << 8 | ';', 2);
        x.feed(255, 1);
        check.due("25 a byte above 127", x.read(), -1002);
        x.feed('2' << 8 | ';', 2);
        x.feed(0, 1);
        check.due("25 a byte 0", x.read(), -1002);
        String longest = "6;999;999,999;999,999,999;999,999,999,999;999,999,999,999,999";
        check.due("25 beyond the longest", Texts.read(x, longest + ";"), -1000 - longest.length());
    }

    private static void faultsChangeNothing() {
        CutDistances x = new CutDistances();
        x.put(0, 1, 5);
        x.place(3, 1, 2);
        Texts.read(x, "3;1;2,3;");
        check.due("25 N stays", x.count(0), 4);
        check.due("25 distances stay", x.count(2), 5);
        check.due("25 no deed", x.count(3), 1);
        check.due("25 places stay", x.place(3, 1, 2), 102);
        check.due("25 the tape is empty by a fault", x.count(4), 0);
    }

    private static void spell() {
        CutDistances x = new CutDistances();
        check.due("26 below", x.spell(-2), BAD);
        check.due("26 least", x.spell(Integer.MIN_VALUE), BAD);
        check.due("26 how many", x.spell(-1), 13);
        check.due("26 the last", x.spell(12), '0');
        check.due("26 not as many", x.spell(13), NOT);
        check.due("26 far beyond", x.spell(Integer.MAX_VALUE), NOT);
        String[] texts = {
            "2;0", "2;9", "2;10", "2;99", "2;100", "2;909", "2;999", "3;1;2,3", "4;100;20,3;0,40,505",
            "6;999;999,999;999,999,999;999,999,999,999;999,999,999,999,999",
        };
        for (String text : texts) {
            Texts.read(x, text);
            check.due("26 how many of " + text, x.spell(-1), text.length());
            check.holds("26 " + text, Texts.spelled(x).equals(text));
            check.due("26 not as many as in " + text, x.spell(text.length()), NOT);
        }
        Texts.read(x, "2;007");
        check.holds("26 without 0 ahead", Texts.spelled(x).equals("2;7"));
        x.feed('x', 1);
        check.holds("26 whatever is on the tape", Texts.spelled(x).equals("2;7"));
    }
}
