/** Promises 13 to 20: walls. */
final class WallsTest {
    private static final int BAD = -1, NOT = -2, STATE = -5, NOTHING = -11, OTHER_KIND = -12;
    private static final long NO = Long.MIN_VALUE;
    private static final Check check = new Check();

    public static void main(String[] args) {
        wallCounts();
        wallKinds();
        wallsWrong();
        wallNumbers();
        holdWall();
        wallOf();
        wallOfRefused();
        value();
        roots();
        root();
        refusedWithoutWall();
        switched();
        check.end();
    }

    private static void wallOfNumbers(CutDistances x, int h, int... numbers) {
        Benches.rowOf(x, h, numbers);
        x.wallOf(h, h);
    }

    private static void wallCounts() {
        CutDistances x = new CutDistances();
        for (int n = 2; n <= 6; n++) {
            x.points(n);
            for (int m = 1; m <= 3; m++) {
                check.due("13 how many, " + n + " points, width " + m, x.walls(m, 0), brute(n, m));
            }
        }
    }

    private static int brute(int n, int m) {
        int found = 0;
        int rows = 1;
        for (int i = 0; i < n; i++) {
            rows *= 2 * m + 1;
        }
        for (int code = 0; code < rows; code++) {
            int together = 0;
            for (int i = 0, c = code; i < n; i++, c /= 2 * m + 1) {
                together += c % (2 * m + 1) - m;
            }
            found += together == 1 ? 1 : 0;
        }
        return found;
    }

    /** WALLS of two points: (-2, 3) (-1, 2) (0, 1) (1, 0) (2, -1) (3, -2). */
    private static void wallKinds() {
        CutDistances x = new CutDistances();
        x.points(2);
        check.due("13 all are tight", x.walls(3, 2), 6);
        check.due("13 none is broken", x.walls(3, 1), 0);
        check.due("13 no first", x.walls(3, 3), NOT);
        check.due("13 of like ones the first", x.walls(3, 4), 0);
        x.put(0, 1, 5);
        check.due("13 two are tight", x.walls(3, 2), 2);
        check.due("13 the greatest is not above 0", x.walls(3, 4), 2);
        x.points(3);
        x.put(0, 1, 1);
        check.due("13 broken", x.walls(1, 1), 1);
        // (-1, 1, 1) (0, 0, 1) (0, 1, 0) (1, -1, 1) (1, 0, 0) (1, 1, -1): the last has the VALUE 1.
        check.due("13 first broken", x.walls(1, 3), 5);
        check.due("13 greatest", x.walls(1, 4), 5);
        check.due("13 tight", x.walls(1, 2), 3);
        // Behind 2, 3 and 4 rows with b(0) -2, -1 and 0, and 3 with 1: (1, 1, -1) (1, 2, -2) and, later, (2, 1, -2).
        check.due("13 broken, wider", x.walls(2, 1), 3);
        check.due("13 first broken, wider", x.walls(2, 3), 12);
        check.due("13 greatest, wider", x.walls(2, 4), 13);
        // (2, 2, -3): behind 3, 4, 5, 6 and 7 rows with b(0) -3 to 1, and 5 with 2.
        check.due("13 greatest, widest", x.walls(3, 4), 30);
    }

    private static void wallsWrong() {
        CutDistances x = new CutDistances();
        check.due("13 width below", x.walls(0, 0), BAD);
        check.due("13 width above", x.walls(4, 0), BAD);
        check.due("13 what below", x.walls(1, -1), BAD);
        check.due("13 what above", x.walls(1, 5), BAD);
        check.due("14 width below", x.wall(0, 0, 0), BAD);
        check.due("14 width above", x.wall(4, 0, 0), BAD);
        check.due("14 point below", x.wall(1, 0, -1), BAD);
        check.due("14 point above", x.wall(1, 0, 4), BAD);
        check.due("14 k below", x.wall(1, -1, 0), BAD);
        check.due("14 bad ahead of not", x.wall(1, 999, 4), BAD);
        check.due("14 not as many", x.wall(1, 16, 0), NOT);
        check.due("14 far beyond", x.wall(3, Integer.MAX_VALUE, 0), NOT);
        check.due("15 holder below", x.holdWall(-1, 1, 0), BAD);
        check.due("15 holder above", x.holdWall(6, 1, 0), BAD);
        check.due("15 width below", x.holdWall(0, 0, 0), BAD);
        check.due("15 width above", x.holdWall(0, 4, 0), BAD);
        check.due("15 k below", x.holdWall(0, 1, -1), BAD);
        check.due("15 bad ahead of not", x.holdWall(6, 1, 99), BAD);
        check.due("15 not as many", x.holdWall(0, 1, 16), NOT);
        check.due("15 refused holds nothing", x.lose(0), 0);
    }

    private static void wallNumbers() {
        CutDistances x = new CutDistances();
        x.points(3);
        int[][] due = {
            {-1, 1, 1}, {0, 0, 1}, {0, 1, 0}, {1, -1, 1}, {1, 0, 0}, {1, 1, -1},
        };
        for (int k = 0; k < due.length; k++) {
            for (int i = 0; i < 3; i++) {
                check.due("14 b(" + i + ") of wall " + k, x.wall(1, k, i), due[k][i] + 3);
            }
        }
        int[] first = {-3, 1, 3};
        int[] last = {3, 1, -3};
        for (int i = 0; i < 3; i++) {
            check.due("14 first of width 3", x.wall(3, 0, i), first[i] + 3);
            check.due("14 last of width 3", x.wall(3, 35, i), last[i] + 3);
        }
        check.due("14 beyond the last", x.wall(3, 36, 0), NOT);
        x.points(6);
        int[] middle = {-3, -3, -2, 3, 3, 3};
        for (int i = 0; i < 6; i++) {
            check.due("14 first of six points", x.wall(3, 0, i), middle[i] + 3);
        }
        check.due("14 last of six points", x.wall(3, x.walls(3, 0) - 1, 0), 6);
    }

    private static void holdWall() {
        CutDistances x = new CutDistances();
        x.points(3);
        check.due("15 its width", x.holdWall(2, 3, 0), 3);
        check.due("15 b(0)", x.number(2, 0), -3);
        check.due("15 b(1)", x.number(2, 1), 1);
        check.due("15 b(2)", x.number(2, 2), 3);
        check.due("15 no more numbers", x.number(2, 3), NO);
        check.due("15 as a wall", x.taken(2, 1), 3);
        check.due("15 of N", x.taken(2, 2), 3);
        int narrow = 0;
        for (int k = 0; k < 36; k++) {
            narrow += x.holdWall(2, 3, k) == 1 ? 1 : 0;
        }
        check.due("15 its own width, not m", narrow, 6);
        check.due("15 not as many", x.holdWall(2, 3, 36), NOT);
        check.due("15 refused changes nothing", x.number(2, 0), 3);
    }

    private static void wallOf() {
        CutDistances x = new CutDistances();
        Benches.rowOf(x, 0, 2, -3, 1, 1, 77);
        check.due("16 width", x.wallOf(5, 0), 3);
        check.due("16 the first N", x.number(5, 3), 1);
        check.due("16 no more", x.number(5, 4), NO);
        check.due("16 the row stays", x.lose(0), 3);
        Benches.rowOf(x, 0, 0, 0, 1, 0, 9, 9);
        check.due("16 the same holder", x.wallOf(0, 0), 1);
        check.due("16 a wall then", x.taken(0, 2), 4);
        check.due("16 its number", x.number(0, 2), 1);
        check.due("16 without the rest", x.number(0, 4), NO);
        Benches.rowOf(x, 1, -3, 3, 3, -2);
        check.due("16 over another wall", x.wallOf(0, 1), 3);
        check.due("16 its first number", x.number(0, 0), -3);
        x.set(1, 0, 5);
        check.due("16 its own numbers", x.number(0, 0), -3);
    }

    private static void wallOfRefused() {
        CutDistances x = new CutDistances();
        check.due("16 nothing", x.wallOf(0, 1), NOTHING);
        check.due("16 h below", x.wallOf(-1, 1), BAD);
        check.due("16 h above", x.wallOf(6, 1), BAD);
        check.due("16 from below", x.wallOf(0, -1), BAD);
        check.due("16 from above", x.wallOf(0, 6), BAD);
        x.hold(1);
        check.due("16 distances", x.wallOf(0, 1), OTHER_KIND);
        x.holdWall(1, 1, 0);
        check.due("16 a wall", x.wallOf(0, 1), OTHER_KIND);
        Benches.rowOf(x, 1, 1, 0, 0);
        check.due("16 fewer", x.wallOf(0, 1), STATE);
        Benches.rowOf(x, 1);
        check.due("16 none at all", x.wallOf(0, 1), STATE);
        Benches.rowOf(x, 1, 1, 1, 0, 0);
        check.due("16 together 2", x.wallOf(0, 1), STATE);
        Benches.rowOf(x, 1, 0, 0, 0, 0);
        check.due("16 together 0", x.wallOf(0, 1), STATE);
        Benches.rowOf(x, 1, 4, -3, 0, 0);
        check.due("16 above 3", x.wallOf(0, 1), STATE);
        Benches.rowOf(x, 1, -4, 3, 2, 0);
        check.due("16 below -3", x.wallOf(0, 1), STATE);
        Benches.rowOf(x, 1, Integer.MIN_VALUE, Integer.MIN_VALUE, 1, 0);
        check.due("16 together 1 by wrapping round", x.wallOf(0, 1), STATE);
        check.due("16 refused holds nothing", x.lose(0), 0);
    }

    private static void value() {
        CutDistances x = new CutDistances();
        Texts.read(x, "3;10;200,3");
        wallOfNumbers(x, 0, 3, -1, -1);
        check.due("17 value", x.value(0), -30 - 600 + 3);
        wallOfNumbers(x, 1, 1, -1, 1);
        check.due("17 broken", x.value(1), -10 + 200 - 3);
        x.put(0, 1, 197);
        check.due("17 of what is now, tight", x.value(1), 0);
        Texts.read(x, "6;999;999,999;999,999,999;999,999,999,999;999,999,999,999,999");
        check.due("17 not N numbers", x.value(0), NO);
        wallOfNumbers(x, 0, 3, 3, 3, -3, -3, -2);
        check.due("17 great ones", x.value(0), 999L * (1 - (5 * 9 + 4)) / 2);
        check.due("17 nothing", x.value(2), NO);
        check.due("17 below", x.value(-1), NO);
        check.due("17 above", x.value(6), NO);
        x.hold(2);
        check.due("17 distances", x.value(2), NO);
        x.row(2, 6);
        check.due("17 a row", x.value(2), NO);
    }

    private static void roots() {
        CutDistances x = new CutDistances();
        wallOfNumbers(x, 0, 1, 1, -1, 0);
        check.due("18 of a triangle", x.roots(0, 0), 5);
        check.due("18 its rank", x.roots(0, 1), 5);
        check.due("18 is a facet", x.roots(0, 2), 1);
        wallOfNumbers(x, 0, 1, 0, 0, 0);
        check.due("18 all cuts", x.roots(0, 0), 7);
        check.due("18 all of six pairs", x.roots(0, 1), 6);
        check.due("18 is none", x.roots(0, 2), 0);
        wallOfNumbers(x, 0, 3, -1, -1, 0);
        check.due("18 of a wide one", x.roots(0, 0), 1);
        check.due("18 one rank", x.roots(0, 1), 1);
        check.due("18 wide is none", x.roots(0, 2), 0);
        x.points(2);
        wallOfNumbers(x, 0, 2, -1);
        check.due("18 no roots", x.roots(0, 0), 0);
        check.due("18 rank 0", x.roots(0, 1), 0);
        check.due("18 a facet of one pair", x.roots(0, 2), 1);
        wallOfNumbers(x, 0, 1, 0);
        check.due("18 the only cut", x.roots(0, 1), 1);
        check.due("18 no facet", x.roots(0, 2), 0);
        x.points(5);
        wallOfNumbers(x, 0, 1, 1, -1, 0, 0);
        check.due("18 eleven of a triangle", x.roots(0, 0), 11);
        check.due("18 only nine are independent", x.roots(0, 1), 9);
        check.due("18 a facet all the same", x.roots(0, 2), 1);
        x.points(6);
        wallOfNumbers(x, 0, 1, 1, -1, 0, 0, 0);
        check.due("18 23 of a triangle", x.roots(0, 0), 23);
        check.due("18 only 14 are independent", x.roots(0, 1), 14);
        wallOfNumbers(x, 0, 2, -1, 0, 0, 0, 0);
        check.due("18 cuts with POINT 0 and 1 on one side", x.roots(0, 0), 15);
        check.due("18 of them ten", x.roots(0, 1), 10);
        check.due("18 no facet by far", x.roots(0, 2), 0);
        wallOfNumbers(x, 0, 2, 1, 1, -1, -1, -1);
        check.due("18 facet of six points", x.roots(0, 2), 1);
        check.due("18 its rank of six", x.roots(0, 1), 14);
        wallOfNumbers(x, 0, 0, 0, 0, 0, 0, 1);
        check.due("18 all 31 cuts", x.roots(0, 0), 31);
        check.due("18 all 15 pairs", x.roots(0, 1), 15);
        check.due("18 what below", x.roots(0, -1), BAD);
        check.due("18 what above", x.roots(0, 3), BAD);
    }

    /** b 1, 1, -1, 0: CUTS with b together 0 or 1 in them. */
    private static void root() {
        CutDistances x = new CutDistances();
        wallOfNumbers(x, 0, 1, 1, -1, 0);
        int[] due = {1, 3, 4, 5, 7};
        for (int k = 0; k < due.length; k++) {
            check.due("19 root " + k, x.root(0, k), due[k]);
        }
        check.due("19 not as many", x.root(0, 5), NOT);
        check.due("19 far beyond", x.root(0, Integer.MAX_VALUE), NOT);
        check.due("19 k below", x.root(0, -1), BAD);
        x.points(6);
        wallOfNumbers(x, 0, 0, 0, 0, 0, 0, 1);
        check.due("19 the last of all", x.root(0, 30), 31);
    }

    private static void refusedWithoutWall() {
        CutDistances x = new CutDistances();
        for (int h : new int[] {-1, 6}) {
            check.due("18 no holder", x.roots(h, 0), BAD);
            check.due("19 no holder", x.root(h, 0), BAD);
            check.due("20 no holder", x.switched(h, 1), BAD);
        }
        check.due("18 nothing", x.roots(0, 0), NOTHING);
        check.due("18 bad ahead of nothing", x.roots(0, 3), BAD);
        check.due("19 nothing", x.root(0, 0), NOTHING);
        check.due("19 bad ahead of nothing", x.root(0, -1), BAD);
        check.due("20 nothing", x.switched(0, 1), NOTHING);
        check.due("20 bad ahead of nothing", x.switched(0, 0), BAD);
        x.hold(0);
        check.due("18 distances", x.roots(0, 0), OTHER_KIND);
        check.due("19 distances", x.root(0, 0), OTHER_KIND);
        check.due("20 distances", x.switched(0, 1), OTHER_KIND);
        x.row(0, 4);
        check.due("18 a row", x.roots(0, 0), OTHER_KIND);
        check.due("18 bad ahead of its kind", x.roots(0, -1), BAD);
        check.due("19 a row", x.root(0, 0), OTHER_KIND);
        check.due("20 a row", x.switched(0, 1), OTHER_KIND);
        x.holdWall(0, 1, 0);
        x.points(5);
        check.due("18 not N numbers", x.roots(0, 0), STATE);
        check.due("19 not N numbers", x.root(0, 0), STATE);
        check.due("19 not N numbers, far beyond", x.root(0, 99), STATE);
        check.due("20 not N numbers", x.switched(0, 8), STATE);
        check.due("20 bad ahead of it", x.switched(0, 16), BAD);
        check.due("18 bad ahead of it", x.roots(0, 3), BAD);
        x.points(4);
        check.due("18 N numbers again", x.roots(0, 0), 5);
    }

    private static void switched() {
        CutDistances x = new CutDistances();
        x.points(5);
        wallOfNumbers(x, 0, 1, 1, -1, 0, 0);
        check.due("20 can't be", x.switched(0, 1), STATE);
        check.due("20 refused changes nothing", x.number(0, 1), 1);
        check.due("20 without numbers", x.switched(0, 12), 0);
        check.due("20 otherwise", x.switched(0, 7), 1);
        check.due("20 b(0)", x.number(0, 0), 1);
        check.due("20 b(1)", x.number(0, 1), -1);
        check.due("20 b(2)", x.number(0, 2), 1);
        check.due("20 b(3)", x.number(0, 3), 0);
        check.due("20 still a wall", x.taken(0, 1), 1);
        check.due("20 cut below", x.switched(0, 0), BAD);
        check.due("20 cut above", x.switched(0, 16), BAD);
        check.due("20 far below", x.switched(0, Integer.MIN_VALUE), BAD);
        check.due("20 the last cut", x.switched(0, 15), 1);
        check.due("20 back again", x.number(0, 1), 1);
    }
}
