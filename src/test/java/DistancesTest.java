/** Promises 1 to 10: a new object, and distances. */
final class DistancesTest {
    private static final int BAD = -1, STATE = -5;
    private static final Check check = new Check();

    public static void main(String[] args) {
        newObject();
        points();
        putAndAt();
        cut();
        paths();
        place();
        town();
        stretch();
        back();
        deedsThatAreNone();
        check.end();
    }

    private static void spelled(String what, CutDistances x, String want) {
        String got = Texts.spelled(x);
        check.holds(what + ": " + got + ", due is " + want, got.equals(want));
    }

    private static void newObject() {
        CutDistances x = new CutDistances();
        check.due("1 N", x.count(0), 4);
        spelled("1 all 0", x, "4;0;0,0;0,0,0");
        check.due("1 no deeds", x.count(3), 0);
        check.due("1 empty tape", x.count(4), 0);
        for (int i = 0; i < 4; i++) {
            check.due("1 place", x.place(i, 0, 0), 0);
        }
        for (int h = 0; h < 6; h++) {
            check.due("1 holders", x.lose(h), 0);
        }
        check.due("1 no image", x.undo(), STATE);
    }

    private static void points() {
        CutDistances x = new CutDistances();
        x.put(0, 1, 5);
        x.place(0, 1, 2);
        x.place(1, 3, 4);
        check.due("2 below", x.points(1), BAD);
        check.due("2 above", x.points(7), BAD);
        check.due("2 least int", x.points(Integer.MIN_VALUE), BAD);
        check.due("2 greatest int", x.points(Integer.MAX_VALUE), BAD);
        check.due("2 refused: deeds stay", x.count(3), 1);
        check.due("2 refused: distances stay", x.at(0, 1), 5);
        check.due("2 the same N", x.points(4), 4);
        check.due("2 no deeds behind it", x.back(), STATE);
        check.due("2 distances are 0", x.count(2), 0);
        check.due("2 places are 0", x.place(0, 0, 0), 0);
        check.due("2 places are 0", x.place(1, 0, 0), 0);
        check.due("2 least", x.points(2), 4);
        spelled("2 two points", x, "2;0");
        check.due("2 most", x.points(6), 2);
        spelled("2 six points", x, "6;0;0,0;0,0,0;0,0,0,0;0,0,0,0,0");
        check.due("2 what N was", x.points(3), 6);
    }

    private static void putAndAt() {
        CutDistances x = new CutDistances();
        check.due("3 what it was", x.put(1, 3, 999), 0);
        check.due("3 from the other side", x.put(3, 1, 7), 999);
        check.due("4 at", x.at(1, 3), 7);
        check.due("4 at, from the other side", x.at(3, 1), 7);
        spelled("3 only this one", x, "4;0;0,0;0,7,0");
        check.due("3 like points", x.put(2, 2, 1), BAD);
        check.due("3 point below", x.put(-1, 2, 1), BAD);
        check.due("3 point above", x.put(4, 2, 1), BAD);
        check.due("3 second point below", x.put(2, -1, 1), BAD);
        check.due("3 second point above", x.put(2, 4, 1), BAD);
        check.due("3 number below", x.put(0, 1, -1), BAD);
        check.due("3 number above", x.put(0, 1, 1000), BAD);
        check.due("4 like points", x.at(2, 2), BAD);
        check.due("4 point below", x.at(-1, 0), BAD);
        check.due("4 point above", x.at(4, 0), BAD);
        check.due("4 second point below", x.at(0, -1), BAD);
        check.due("4 second point above", x.at(0, 4), BAD);
        check.due("3 refused ones are no deeds", x.count(3), 2);
        check.due("3 to 0", x.put(1, 3, 0), 7);
        check.due("4 is 0", x.at(1, 3), 0);
        x.points(6);
        for (int i = 0; i < 6; i++) {
            for (int j = i + 1; j < 6; j++) {
                check.due("3 all pairs are apart", x.put(i, j, 10 * i + j), 0);
            }
        }
        check.due("4 the last pair", x.at(5, 4), 45);
        spelled("3 all pairs", x, "6;1;2,12;3,13,23;4,14,24,34;5,15,25,35,45");
    }

    private static void cut() {
        CutDistances x = new CutDistances();
        check.due("5 together", x.cut(5, 10), 40);
        spelled("5 points 1 and 3 apart from 0 and 2", x, "4;10;0,10;10,0,10");
        check.due("5 less", x.cut(7, 3), 49);
        spelled("5 all but point 0", x, "4;13;3,10;13,0,10");
        check.due("5 back to 0", x.cut(5, -10), 9);
        check.due("5 below 0", x.cut(5, -1), STATE);
        check.due("5 refused changes nothing", x.count(2), 9);
        check.due("5 cut 0", x.cut(0, 1), BAD);
        check.due("5 cut below", x.cut(-1, 1), BAD);
        check.due("5 cut above", x.cut(8, 1), BAD);
        check.due("5 weight below", x.cut(1, -100), BAD);
        check.due("5 weight above", x.cut(1, 100), BAD);
        check.due("5 least weight is no bad one", x.cut(1, -99), STATE);
        x.points(2);
        x.put(0, 1, 900);
        check.due("5 most", x.cut(1, 99), 999);
        check.due("5 above 999", x.cut(1, 1), STATE);
        check.due("5 last cut of two points", x.cut(2, 1), BAD);
        check.due("5 least weight", x.cut(1, -99), 900);
        check.due("5 deeds", x.count(3), 3);
        check.due("5 by 0", x.cut(1, 0), 900);
        check.due("5 by 0 is no deed", x.count(3), 3);
        x.points(6);
        check.due("5 last cut of six points", x.cut(31, 1), 5);
        check.due("5 beyond it", x.cut(32, 1), BAD);
    }

    private static void paths() {
        CutDistances x = new CutDistances();
        Texts.read(x, "5;1;9,1;9,9,1;20,9,9,1");
        check.due("6 otherwise", x.paths(), 6);
        spelled("6 a straight row", x, "5;1;2,1;3,2,1;4,3,2,1");
        check.due("6 again", x.paths(), 0);
        check.due("6 no deed then", x.count(3), 2);
        check.due("6 taken back", x.back(), 1);
        check.due("6 as it was", x.at(0, 4), 20);
        Texts.read(x, "3;0;5,7");
        check.due("6 over a distance of 0", x.paths(), 1);
        spelled("6 both 5", x, "3;0;5,5");
        Texts.read(x, "4;999;1,999;999,1,1");
        check.due("6 two stops", x.paths(), 3);
        spelled("6 by the last points", x, "4;3;1,2;2,1,1");
        check.due("5 refused", x.cut(1, -3), STATE);
        check.due("6 behind a refused one", x.paths(), 0);
        x.points(3);
        check.due("6 behind points", x.paths(), 0);
        check.due("6 N stays", x.count(0), 3);
    }

    private static void place() {
        CutDistances x = new CutDistances();
        check.due("7 at first", x.place(3, 99, 98), 0);
        check.due("7 as it was", x.place(3, 12, 34), 9998);
        check.due("7 as it was again", x.place(3, 0, 5), 1234);
        check.due("7 y alone", x.place(3, 0, 0), 5);
        check.due("7 point below", x.place(-1, 0, 0), BAD);
        check.due("7 point above", x.place(4, 0, 0), BAD);
        check.due("7 x below", x.place(0, -1, 0), BAD);
        check.due("7 x above", x.place(0, 100, 0), BAD);
        check.due("7 y below", x.place(0, 0, -1), BAD);
        check.due("7 y above", x.place(0, 0, 100), BAD);
        check.due("7 no deed", x.count(3), 0);
        check.due("7 distances stay", x.count(2), 0);
        x.points(2);
        check.due("7 beyond N", x.place(2, 0, 0), BAD);
    }

    private static void town() {
        CutDistances x = new CutDistances();
        check.due("8 nothing is otherwise", x.town(), 0);
        check.due("8 no deed then", x.count(3), 0);
        x.place(0, 99, 0);
        x.place(1, 0, 99);
        x.place(2, 99, 7);
        x.place(3, 0, 99);
        x.put(0, 2, 7);
        check.due("8 otherwise", x.town(), 4);
        spelled("8 distances", x, "4;198;7,191;198,0,191");
        check.due("8 a deed", x.count(3), 2);
        check.due("8 taken back", x.back(), 1);
        spelled("8 as they were", x, "4;0;7,0;0,0,0");
        check.due("8 places stay", x.place(0, 0, 0), 9900);
        x.points(3);
        x.place(1, 2, 3);
        check.due("8 behind points", x.town(), 2);
        spelled("8 N stays", x, "3;5;0,5");
        x.points(6);
        x.place(5, 4, 4);
        check.due("8 six points", x.town(), 5);
        spelled("8 six places", x, "6;0;0,0;0,0,0;0,0,0,0;8,8,8,8,8");
    }

    private static void stretch() {
        CutDistances x = new CutDistances();
        Texts.read(x, "3;1;2,10");
        check.due("9 together", x.stretch(99), 99 + 198 + 990);
        check.due("9 above 999", x.stretch(2), STATE);
        check.due("9 refused changes nothing", x.count(2), 1287);
        check.due("9 by 1", x.stretch(1), 1287);
        check.due("9 by 1 is no deed", x.count(3), 2);
        check.due("9 below", x.stretch(-1), BAD);
        check.due("9 above", x.stretch(100), BAD);
        check.due("9 by 0", x.stretch(0), 0);
        check.due("9 by 0 is one", x.count(3), 3);
        check.due("9 of nothing", x.stretch(99), 0);
        check.due("9 of nothing is none", x.count(3), 3);
        Texts.read(x, "3;333;0,0");
        check.due("9 just 999", x.stretch(3), 999);
        Texts.read(x, "3;0;0,500");
        check.due("9 just above", x.stretch(2), STATE);
        Texts.read(x, "6;1;1,1;1,1,1;1,1,1,1;1,1,1,1,7");
        check.due("9 six points", x.stretch(3), 63);
        check.due("9 the last pair", x.at(4, 5), 21);
    }

    private static void back() {
        CutDistances x = new CutDistances();
        check.due("10 none", x.back(), STATE);
        for (int v = 1; v <= 10; v++) {
            x.put(0, 1, v);
            check.due("10 eight at most", x.count(3), Math.min(v, 8));
        }
        for (int v = 9; v >= 2; v--) {
            check.due("10 how many still", x.back(), v - 2);
            check.due("10 the latest first", x.at(0, 1), v);
        }
        check.due("10 older ones no more", x.back(), STATE);
        check.due("10 stays", x.at(0, 1), 2);

        x.put(0, 1, 50);
        x.back();
        x.put(0, 2, 60);
        check.due("10 no deed is taken back twice", x.back(), 0);
        spelled("10 behind a new deed", x, "4;2;0,0;0,0,0");
        backOverN();
    }

    private static void backOverN() {
        CutDistances x = new CutDistances();
        x.points(5);
        x.put(3, 4, 8);
        for (int i = 0; i < 5; i++) {
            x.place(i, 10 + i, 20 + i);
        }
        check.due("25 fewer points", Texts.read(x, "3;1;2,3"), 3);
        check.due("10 more points come", x.back(), 1);
        spelled("10 N and distances as ahead of it", x, "5;0;0,0;0,0,0;0,0,0,8");
        check.due("10 a point that stays keeps its place", x.place(2, 12, 22), 1222);
        check.due("10 one that comes has 0, 0", x.place(3, 7, 7), 0);
        check.due("10 the last one, too", x.place(4, 7, 7), 0);
        Texts.read(x, "2;1");
        Texts.read(x, "6;1;1,1;1,1,1;1,1,1,1;1,1,1,1,1");
        check.due("25 one that stayed", x.place(1, 11, 21), 1121);
        check.due("25 one that comes has 0, 0", x.place(2, 5, 5), 0);
        check.due("10 fewer points", x.back(), 2);
        check.due("10 two points", x.count(0), 2);
        check.due("10 more points again", x.back(), 1);
        check.due("10 a place that was there before", x.place(2, 0, 0), 0);
    }

    private static void deedsThatAreNone() {
        CutDistances x = new CutDistances();
        x.put(0, 1, 0);
        x.cut(1, 0);
        x.paths();
        x.town();
        x.stretch(5);
        Texts.read(x, "4;0;0,0;0,0,0");
        x.place(0, 1, 1);
        check.due("10 nothing otherwise: no deed", x.count(3), 0);
        Texts.read(x, "3;0;0,0");
        check.due("10 N otherwise: a deed", x.count(3), 1);
        x.image();
        check.due("34 the image is no deed", x.count(3), 1);
        x.undo();
        check.due("35 none behind undo", x.back(), STATE);
    }
}
