/** Promises 11 and 12: triangles and rounds. */
final class TrianglesTest {
    private static final int BAD = -1, NOT = -2;
    private static final Check check = new Check();

    public static void main(String[] args) {
        wrongNumbers();
        none();
        broken();
        odd();
        check.end();
    }

    private static void wrongNumbers() {
        CutDistances x = new CutDistances();
        for (int what : new int[] {-1, 2, Integer.MIN_VALUE, Integer.MAX_VALUE}) {
            check.due("11 what " + what, x.triangles(what), BAD);
            check.due("12 what " + what, x.rounds(what), BAD);
        }
    }

    private static void none() {
        CutDistances x = new CutDistances();
        check.due("11 none: how many", x.triangles(0), 0);
        check.due("11 none: the first", x.triangles(1), NOT);
        check.due("12 none: how many", x.rounds(0), 0);
        check.due("12 none: the first", x.rounds(1), NOT);
        x.points(2);
        x.put(0, 1, 999);
        check.due("11 of two points", x.triangles(0), 0);
        check.due("11 of two points, the first", x.triangles(1), NOT);
        check.due("12 of two points", x.rounds(0), 0);
        check.due("12 of two points, the first", x.rounds(1), NOT);
    }

    private static void broken() {
        CutDistances x = new CutDistances();
        Texts.read(x, "3;2;3,5");
        check.due("11 just as far is not broken", x.triangles(0), 0);
        Texts.read(x, "3;2;3,6");
        check.due("11 POINT 0 is between", x.triangles(1), 12);
        Texts.read(x, "3;6;3,2");
        check.due("11 POINT 2 is between", x.triangles(1), 201);
        Texts.read(x, "3;2;6,3");
        check.due("11 POINT 1 is between", x.triangles(1), 102);
        check.due("11 one of three", x.triangles(0), 1);
        Texts.read(x, "6;0;0,0;0,0,0;0,0,0,0;0,0,0,0,1");
        check.due("11 each other point is between", x.triangles(0), 4);
        check.due("11 the first of them", x.triangles(1), 45);
        Texts.read(x, "6;5;5,5;5,5,5;5,5,5,5;5,5,5,5,11");
        check.due("11 the long one", x.triangles(0), 4);
        Texts.read(x, "4;9;1,1;1,1,1");
        check.due("11 two of them", x.triangles(0), 2);
        check.due("11 the lesser number", x.triangles(1), 201);
    }

    private static void odd() {
        CutDistances x = new CutDistances();
        Texts.read(x, "3;1;1,1");
        check.due("12 odd", x.rounds(0), 1);
        check.due("12 its points", x.rounds(1), 12);
        Texts.read(x, "3;1;1,0");
        check.due("12 even", x.rounds(0), 0);
        for (String text : new String[] {"3;3;0,0", "3;0;3,0", "3;0;0,3"}) {
            Texts.read(x, text);
            check.due("12 one long one in " + text, x.rounds(1), 12);
        }
        Texts.read(x, "4;0;0,0;0,0,1");
        check.due("12 of PAIR (2, 3)", x.rounds(0), 2);
        check.due("12 the first of them", x.rounds(1), 23);
        Texts.read(x, "4;0;0,0;0,1,1");
        check.due("12 two odd ones", x.rounds(0), 2);
        check.due("12 the lesser number", x.rounds(1), 13);
        Texts.read(x, "6;1;1,1;1,1,1;1,1,1,1;1,1,1,1,1");
        check.due("12 all of them", x.rounds(0), 20);
        Texts.read(x, "4;999;0,999;0,999,0");
        check.due("12 a cut has none", x.rounds(0), 0);
    }
}
