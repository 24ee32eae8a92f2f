/** Promises 27 to 36: holders and the image. */
final class HoldersTest {
    private static final int BAD = -1, NOT = -2, STATE = -5;
    private static final int NOTHING = -11, OTHER_KIND = -12, NO_PLACE = -13, BELOW_0 = -14;
    private static final long NO = Long.MIN_VALUE;
    private static final Check check = new Check();

    public static void main(String[] args) {
        hold();
        lose();
        taken();
        number();
        row();
        set();
        judge();
        image();
        imageKeepsOnlyItsOwn();
        count();
        check.end();
    }

    private static void hold() {
        CutDistances x = new CutDistances();
        Texts.read(x, "4;1;2,3;4,5,6");
        check.due("27 N", x.hold(5), 4);
        check.due("27 below", x.hold(-1), BAD);
        check.due("27 above", x.hold(6), BAD);
        x.points(6);
        check.due("27 as they were", x.taken(5, 0), 21);
        check.due("27 N as it was", x.taken(5, 2), 4);
        check.due("27 the last", x.number(5, 5), 6);
        check.due("27 no more", x.number(5, 6), NO);
        check.due("27 over others", x.hold(5), 6);
        check.due("27 fifteen", x.number(5, 14), 0);
        check.due("27 no sixteenth", x.number(5, 15), NO);
        x.row(5, 20);
        for (int i = 0; i < 20; i++) {
            x.set(5, i, 7);
        }
        x.hold(5);
        check.due("27 nothing of the row that was there", x.taken(5, 0), 0);
        check.due("27 nor beyond the pairs", x.number(5, 15), NO);
    }

    private static void lose() {
        CutDistances x = new CutDistances();
        check.due("28 nothing", x.lose(0), 0);
        x.hold(0);
        x.holdWall(1, 1, 0);
        x.row(2, 0);
        check.due("28 distances", x.lose(0), 1);
        check.due("28 a wall", x.lose(1), 2);
        check.due("28 a row", x.lose(2), 3);
        for (int h = 0; h < 3; h++) {
            check.due("28 nothing then", x.lose(h), 0);
            check.due("28 nothing to take", x.taken(h, 2), NOTHING);
        }
        check.due("28 below", x.lose(-1), BAD);
        check.due("28 above", x.lose(6), BAD);
    }

    private static void taken() {
        CutDistances x = new CutDistances();
        Texts.read(x, "3;100;20,3");
        x.hold(0);
        x.holdWall(1, 2, 0);
        x.row(2, 3);
        check.due("29 distances together", x.taken(0, 0), 123);
        check.due("29 distances as a wall", x.taken(0, 1), OTHER_KIND);
        check.due("29 distances, N", x.taken(0, 2), 3);
        check.due("29 a wall as distances", x.taken(1, 0), OTHER_KIND);
        check.due("29 a wall's width", x.taken(1, 1), 2);
        check.due("29 a wall, N", x.taken(1, 2), 3);
        for (int kind = 0; kind < 3; kind++) {
            check.due("29 a row", x.taken(2, kind), OTHER_KIND);
            check.due("29 nothing", x.taken(3, kind), NOTHING);
            check.due("29 below", x.taken(-1, kind), BAD);
            check.due("29 above", x.taken(6, kind), BAD);
        }
        check.due("29 kind below", x.taken(0, -1), BAD);
        check.due("29 kind above", x.taken(0, 3), BAD);
        check.due("29 bad ahead of nothing", x.taken(3, 3), BAD);
        x.points(5);
        check.due("29 the N it was of", x.taken(1, 2), 3);
    }

    private static void number() {
        CutDistances x = new CutDistances();
        Texts.read(x, "4;1;2,3;4,5,6");
        x.hold(0);
        int[] due = {1, 2, 4, 3, 5, 6};
        for (int i = 0; i < 6; i++) {
            check.due("30 of pair " + i, x.number(0, i), due[i]);
        }
        check.due("30 beyond the pairs", x.number(0, 6), NO);
        check.due("30 place below", x.number(0, -1), NO);
        x.holdWall(0, 1, 0);
        check.due("30 of a wall", x.number(0, 0), -1);
        check.due("30 beyond the wall", x.number(0, 4), NO);
        x.row(0, 20);
        x.set(0, 19, Integer.MIN_VALUE);
        check.due("30 of a row", x.number(0, 19), Integer.MIN_VALUE);
        check.due("30 beyond the row", x.number(0, 20), NO);
        check.due("30 nothing", x.number(1, 0), NO);
        check.due("30 below", x.number(-1, 0), NO);
        check.due("30 above", x.number(6, 0), NO);
        x.lose(0);
        check.due("30 lost", x.number(0, 0), NO);
    }

    private static void row() {
        CutDistances x = new CutDistances();
        check.due("31 empty", x.row(0, 0), 0);
        check.due("31 a row all the same", x.judge(0), 0);
        check.due("31 longest", x.row(0, 20), 20);
        check.due("31 above", x.row(0, 21), BAD);
        check.due("31 far above", x.row(0, Integer.MAX_VALUE), BAD);
        check.due("31 below 0", x.row(0, -1), BELOW_0);
        check.due("31 far below 0", x.row(0, Integer.MIN_VALUE), BELOW_0);
        check.due("31 holder below", x.row(-1, 1), BAD);
        check.due("31 holder above, size below 0", x.row(6, -1), BAD);
        check.due("31 refused changes nothing", x.number(0, 19), 0);
        for (int i = 0; i < 20; i++) {
            x.set(0, i, i + 1);
        }
        x.row(0, 3);
        x.row(0, 20);
        for (int i = 0; i < 20; i++) {
            check.due("31 all 0", x.number(0, i), 0);
        }
    }

    private static void set() {
        CutDistances x = new CutDistances();
        check.due("32 nothing", x.set(0, 0, 1), NOTHING);
        check.due("32 below", x.set(-1, 0, 1), BAD);
        check.due("32 above", x.set(6, 0, 1), BAD);
        x.hold(0);
        check.due("32 distances", x.set(0, 0, 1), OTHER_KIND);
        check.due("32 its kind ahead of the place", x.set(0, 99, 1), OTHER_KIND);
        x.holdWall(0, 1, 0);
        check.due("32 a wall", x.set(0, 0, 1), OTHER_KIND);
        x.row(0, 3);
        check.due("32 place below", x.set(0, -1, 1), NO_PLACE);
        check.due("32 place above", x.set(0, 3, 1), NO_PLACE);
        check.due("32 set", x.set(0, 2, Integer.MAX_VALUE), 1);
        check.due("32 is so", x.number(0, 2), Integer.MAX_VALUE);
        check.due("32 others stay", x.number(0, 1), 0);
        x.row(0, 0);
        check.due("32 an empty row", x.set(0, 0, 1), NO_PLACE);
    }

    private static void judge() {
        CutDistances x = new CutDistances();
        check.due("33 nothing", x.judge(0), NOTHING);
        check.due("33 below", x.judge(-1), BAD);
        check.due("33 above", x.judge(6), BAD);
        x.hold(0);
        check.due("33 distances", x.judge(0), OTHER_KIND);
        x.holdWall(0, 1, 0);
        check.due("33 a wall", x.judge(0), OTHER_KIND);
        Texts.read(x, "3;7;8,9");
        x.row(0, 2);
        check.due("33 the first is otherwise", x.judge(0), 0);
        x.set(0, 0, 7);
        check.due("33 the second is otherwise", x.judge(0), 1);
        x.set(0, 1, 8);
        check.due("33 no number of the third", x.judge(0), 2);
        x.row(0, 4);
        x.set(0, 0, 7);
        x.set(0, 1, 8);
        x.set(0, 2, 9);
        check.due("33 longer", x.judge(0), 3);
        x.set(0, 2, -9);
        check.due("33 otherwise ahead of longer", x.judge(0), 2);
        x.row(0, 3);
        x.set(0, 0, 7);
        x.set(0, 1, 8);
        x.set(0, 2, 9);
        check.due("33 all is so", x.judge(0), NOT);
        x.put(1, 2, 10);
        check.due("33 of what is now", x.judge(0), 2);
    }

    private static void image() {
        CutDistances x = new CutDistances();
        check.due("35 none was kept", x.undo(), STATE);
        Texts.read(x, "3;7;8,9");
        x.place(2, 5, 6);
        check.due("34 N", x.image(), 3);
        x.put(0, 1, 1);
        x.place(2, 1, 1);
        check.due("35 N", x.undo(), 3);
        check.due("35 distances", x.at(0, 1), 7);
        check.due("35 places", x.place(2, 0, 0), 506);
        check.due("35 no deeds", x.back(), STATE);
        x.points(6);
        x.place(5, 9, 9);
        check.due("35 the image stays", x.undo(), 3);
        check.due("35 distances again", x.count(2), 24);
        check.due("35 places again", x.place(2, 5, 6), 506);
        Texts.read(x, "6;1;1,1;1,1,1;1,1,1,1;1,1,1,1,1");
        check.due("35 a point that comes", x.place(5, 1, 1), 0);
        check.due("34 another one", x.image(), 6);
        x.points(2);
        check.due("35 the other one", x.undo(), 6);
        check.due("35 its places", x.place(5, 0, 0), 101);
        check.due("35 and those that stayed", x.place(2, 0, 0), 506);
    }

    private static void imageKeepsOnlyItsOwn() {
        CutDistances x = new CutDistances();
        x.put(0, 1, 1);
        x.image();
        check.due("34 deeds stay", x.count(3), 1);
        x.feed(0, 3);
        x.row(4, 7);
        x.undo();
        check.due("35 the tape stays", x.count(4), 3);
        check.due("35 holders stay", x.lose(4), 3);
        check.due("35 no deeds, also if nothing is otherwise", x.count(3), 0);
    }

    private static void count() {
        CutDistances x = new CutDistances();
        for (int n = 2; n <= 6; n++) {
            x.points(n);
            check.due("36 N", x.count(0), n);
            check.due("36 pairs", x.count(1), n * (n - 1) / 2);
        }
        x.put(0, 5, 30);
        x.put(4, 5, 12);
        x.feed(0, 2);
        check.due("36 together", x.count(2), 42);
        check.due("36 deeds", x.count(3), 2);
        check.due("36 bytes", x.count(4), 2);
        check.due("36 below", x.count(-1), BAD);
        check.due("36 above", x.count(5), BAD);
        check.due("36 greatest", x.count(Integer.MAX_VALUE), BAD);
    }
}
