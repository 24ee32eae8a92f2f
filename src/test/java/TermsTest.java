import java.util.Arrays;

/** The sentences of "Terms" on POINTS, CUTS, TRIANGLES, ROUNDS and WALLS, one by one, at the bounds that they name. */
final class TermsTest {
    private static final int BAD = -1, NOT = -2, STATE = -5;
    private static final Check check = new Check();

    public static void main(String[] args) {
        for (int n = 2; n <= 6; n++) {
            pointsOf(n);
            distancesOf(n);
            orderOfPairs(n);
            cutsOf(n);
            everyPairOfAValue(n);
            orderOfWalls(n);
            rootsByTheirValue(n);
        }
        brokenIsAbove();
        trianglesInOrder();
        oddRounds();
        numbersOfAWall();
        eachNumberOfAWall();
        widthWithoutSigns();
        brokenTightNeither();
        facetIsOneLess();
        switchedNumbers();
        check.end();
    }

    /** "There are POINTS 0 .. N less 1 (N 2 .. 6; 4 at first)." */
    private static void pointsOf(int n) {
        check.due("4 at first", new CutDistances().points(n), 4);
        CutDistances x = Benches.ofPoints(n);
        check.due("the last of " + n, x.place(n - 1, 3, 4), 0);
        check.due("it is there", x.place(n - 1, 0, 0), 304);
        check.due("one more than " + n, x.place(n, 0, 0), BAD);
        check.due("one less than POINT 0", x.place(-1, 0, 0), BAD);
    }

    /** "a whole number 0 .. 999 (0 at first), the same from j to i" */
    private static void distancesOf(int n) {
        CutDistances x = Benches.ofPoints(n);
        for (int i = 0; i < n; i++) {
            for (int j = 0; j < n; j++) {
                String what = "of " + i + ", " + j + " of " + n;
                check.due("at first " + what, x.at(i, j), i == j ? BAD : 0);
                check.due("999 " + what, x.put(i, j, 999), i == j ? BAD : 0);
                check.due("no more " + what, x.put(i, j, 1000), BAD);
                check.due("from the other side " + what, x.at(j, i), i == j ? BAD : 999);
                check.due("0 " + what, x.put(j, i, 0), i == j ? BAD : 999);
                check.due("no less " + what, x.put(j, i, -1), BAD);
            }
        }
    }

    /** "PAIRS: (0, 1), (0, 2), .., (0, N less 1), (1, 2), .., (N less 2, N less 1), in this order." */
    private static void orderOfPairs(int n) {
        CutDistances x = Benches.ofPoints(n);
        for (int i = 0; i < n; i++) {
            for (int j = i + 1; j < n; j++) {
                x.put(j, i, 10 * i + j);
            }
        }
        x.hold(0);
        int pair = 0;
        for (int i = 0; i < n; i++) {
            for (int j = i + 1; j < n; j++) {
                check.due("pair " + pair + " of " + n + " points", x.number(0, pair), 10 * i + j);
                pair++;
            }
        }
        check.due("as many pairs", x.count(1), pair);
    }

    /** "POINT k (1 and more) is in it, if bit (k less 1) of s is 1; POINT 0 never. It SEPARATES .. just one" */
    private static void cutsOf(int n) {
        int cuts = 1;
        for (int i = 1; i < n; i++) {
            cuts *= 2;
        }
        for (int s = 1; s < cuts; s++) {
            CutDistances x = Benches.ofPoints(n);
            x.cut(s, 9);
            for (int i = 0; i < n; i++) {
                for (int j = i + 1; j < n; j++) {
                    int due = Benches.isIn(s, i) != Benches.isIn(s, j) ? 9 : 0;
                    check.due("cut " + s + " and points " + i + ", " + j + " of " + n, x.at(i, j), due);
                }
            }
        }
        check.due("no cut 0", Benches.ofPoints(n).cut(0, 9), BAD);
        check.due("no cut more", Benches.ofPoints(n).cut(cuts, 9), BAD);
        check.due("no cut -1", Benches.ofPoints(n).cut(-1, 9), BAD);
    }

    /** "BROKEN, if DISTANCE of j and k is above that of i and j and that of i and k together; 100 i, 10 j and k" */
    private static void brokenIsAbove() {
        for (int i = 0; i < 6; i++) {
            for (int j = 0; j < 6; j++) {
                for (int k = j + 1; k < 6; k++) {
                    if (i != j && i != k) {
                        brokenIsAbove(i, j, k);
                    }
                }
            }
        }
    }

    private static void brokenIsAbove(int i, int j, int k) {
        CutDistances x = Benches.ofText("6;5;5,5;5,5,5;5,5,5,5;5,5,5,5,5");
        String what = "triangle " + i + ", " + j + ", " + k;
        x.put(i, j, 3);
        x.put(i, k, 4);
        x.put(j, k, 7);
        check.due("just as far, " + what, x.triangles(0), 0);
        check.due("none is broken, " + what, x.triangles(1), NOT);
        x.put(j, k, 8);
        check.due("one more, " + what, x.triangles(0), 1);
        check.due("told, " + what, x.triangles(1), 100 * i + 10 * j + k);
    }

    /** "their order is that of these numbers" */
    private static void trianglesInOrder() {
        CutDistances x = Benches.ofText("4;50;90,60;50,7,8");
        // By POINT 3 both (0, 2), 90, and (1, 2), 60, are too long, and no other PAIR is by any POINT.
        check.due("two of them", x.triangles(0), 2);
        check.due("302 ahead of 312", x.triangles(1), 302);
        x.put(2, 3, 200);
        // Now (2, 3), 200, is too long by POINTS 0 and 1, and no other PAIR is.
        check.due("two others", x.triangles(0), 2);
        check.due("023 ahead of 123", x.triangles(1), 23);
    }

    /** "A ROUND: three unlike POINTS i, j, k, rising, told likewise: it is ODD, if .. together are odd." */
    private static void oddRounds() {
        int[][] rounds = {{0, 1, 2}, {0, 1, 3}, {0, 2, 3}, {1, 2, 3}};
        for (int parities = 0; parities < 64; parities++) {
            CutDistances x = new CutDistances();
            int bits = parities;
            for (int i = 0; i < 4; i++) {
                for (int j = i + 1; j < 4; j++) {
                    x.put(i, j, 998 + bits % 2);
                    bits /= 2;
                }
            }
            int odd = 0;
            int first = NOT;
            for (int[] r : rounds) {
                if ((x.at(r[0], r[1]) + x.at(r[0], r[2]) + x.at(r[1], r[2])) % 2 != 0) {
                    first = odd == 0 ? 100 * r[0] + 10 * r[1] + r[2] : first;
                    odd++;
                }
            }
            check.due("odd rounds of parities " + parities, x.rounds(0), odd);
            check.due("first odd round of parities " + parities, x.rounds(1), first);
        }
    }

    /** "N whole numbers b(0), b(1), .., each -3 .. 3, all together 1": of two points there are just six. */
    private static void numbersOfAWall() {
        for (int a = -5; a <= 5; a++) {
            for (int b = -5; b <= 5; b++) {
                CutDistances x = Benches.ofPoints(2);
                Benches.rowOf(x, 0, a, b);
                boolean wall = a + b == 1 && a >= -3 && a <= 3 && b >= -3 && b <= 3;
                int width = Math.max(a < 0 ? -a : a, b < 0 ? -b : b);
                check.due("a wall of " + a + ", " + b, x.wallOf(1, 0), wall ? width : STATE);
            }
        }
    }

    /** At each POINT of six a number from -4 to 4, the others so that all together are 1, or 0, or 2. */
    private static void eachNumberOfAWall() {
        for (int point = 0; point < 6; point++) {
            for (int v = -4; v <= 4; v++) {
                for (int together = 0; together <= 2; together++) {
                    int[] b = new int[6];
                    b[point] = v;
                    int left = together - v;
                    for (int i = 0; i < 6; i++) {
                        int share = Math.max(-3, Math.min(3, left));
                        b[i] += i == point ? 0 : share;
                        left -= i == point ? 0 : share;
                    }
                    CutDistances x = Benches.ofPoints(6);
                    Benches.rowOf(x, 0, b);
                    boolean wall = together == 1 && v >= -3 && v <= 3;
                    String what = v + " at point " + point + ", together " + together;
                    check.holds(what, wall == x.wallOf(1, 0) > 0);
                    check.due(what + ": held", x.lose(1), wall ? 2 : 0);
                }
            }
        }
    }

    /** "WIDTH of it: the greatest of its numbers without their signs." */
    private static void widthWithoutSigns() {
        int[][] walls = {
            {1, 0, 0, 0}, {-1, 1, 1, 0}, {-2, 1, 1, 1}, {2, -1, 0, 0}, {-3, 2, 1, 1}, {1, 1, -3, 2}, {3, -2, 0, 0},
        };
        int[] due = {1, 1, 2, 2, 3, 3, 3};
        for (int k = 0; k < walls.length; k++) {
            CutDistances x = new CutDistances();
            Benches.rowOf(x, 0, walls[k]);
            check.due("width by wallOf, " + k, x.wallOf(0, 0), due[k]);
            check.due("width by taken, " + k, x.taken(0, 1), due[k]);
        }
    }

    /** "Its VALUE: for all PAIRS (i, j) b(i) times b(j) times DISTANCE of them, together." */
    private static void everyPairOfAValue(int n) {
        int[][] walls = {{3, -2}, {3, -3, 1}, {-3, 3, 3, -2}, {2, -3, 3, -3, 2}, {3, -3, 2, -2, -1, 2}};
        int[] b = walls[n - 2];
        int all = 0;
        for (int i = 0; i < n; i++) {
            for (int j = i + 1; j < n; j++) {
                CutDistances x = Benches.ofPoints(n);
                Benches.rowOf(x, 0, b);
                x.wallOf(0, 0);
                x.put(i, j, 999);
                check.due("value by pair " + i + ", " + j + " of " + n, x.value(0), 999L * b[i] * b[j]);
                all += b[i] * b[j];
            }
        }
        CutDistances x = Benches.ofPoints(n);
        Benches.rowOf(x, 0, b);
        x.wallOf(0, 0);
        check.due("value of nothing", x.value(0), 0);
        for (int i = 0; i < n; i++) {
            for (int j = i + 1; j < n; j++) {
                x.put(i, j, 999);
            }
        }
        check.due("value of all", x.value(0), 999L * all);
    }

    /** "It is BROKEN, if its VALUE is above 0, TIGHT, if that is 0." The WALL 1, 1, -1 is the last of width 1. */
    private static void brokenTightNeither() {
        for (int v = -1; v <= 1; v++) {
            CutDistances x = Benches.ofPoints(3);
            x.put(0, 1, 10 + v);
            x.put(0, 2, 4);
            x.put(1, 2, 6);
            x.holdWall(0, 1, 5);
            check.due("the value", x.value(0), v);
            check.due("broken only above 0, value " + v, x.walls(1, 1), v > 0 ? 1 : 0);
            // 0, 0, 1 and 0, 1, 0 and 1, 0, 0 are tight always.
            check.due("tight only at 0, value " + v, x.walls(1, 2), v == 0 ? 4 : 3);
            check.due("the first broken one, value " + v, x.walls(1, 3), v > 0 ? 5 : NOT);
        }
    }

    /** "numbered from 0 by their rows (the lesser b(0) first, of like ones the lesser b(1), and so on)" */
    private static void orderOfWalls(int n) {
        for (int m = 1; m <= 3; m++) {
            int all = Benches.ofPoints(n).walls(m, 0);
            // An object is used for 512 calls at most, so one is asked for 50 WALLS.
            int[] before = null;
            CutDistances x = null;
            for (int k = 0; k < all; k++) {
                x = k % 50 == 0 ? Benches.ofPoints(n) : x;
                int[] b = new int[n];
                int together = 0;
                x.holdWall(0, m, k);
                check.due("its last number, wall " + k, x.wall(m, k, n - 1) - 3, x.number(0, n - 1));
                for (int i = 0; i < n; i++) {
                    b[i] = (int) x.number(0, i);
                    together += b[i];
                    check.holds("width " + m + " at most, wall " + k, b[i] >= -m && b[i] <= m);
                }
                check.due("together, wall " + k + " of " + n + " points", together, 1);
                check.holds("wall " + k + " of " + n + " points is behind the one before",
                    before == null || isBehind(b, before));
                before = b;
            }
        }
    }

    private static boolean isBehind(int[] b, int[] before) {
        int i = 0;
        while (i < b.length - 1 && b[i] == before[i]) {
            i++;
        }
        return b[i] > before[i];
    }

    /** "a CUT for which its VALUE would be 0, were DISTANCE 1 of POINTS that the CUT SEPARATES, 0 of others" */
    private static void rootsByTheirValue(int n) {
        int all = Benches.ofPoints(n).walls(3, 0);
        for (int k = 0; k < all; k += n == 6 ? 61 : n == 5 ? 11 : 1) {
            CutDistances x = Benches.ofPoints(n);
            x.holdWall(0, 3, k);
            int found = 0;
            for (int s = 1; s < 1 << (n - 1); s++) {
                x.cut(s, 1);
                if (x.value(0) == 0) {
                    check.due("root " + found + " of wall " + k + " of " + n, x.root(0, found), s);
                    found++;
                }
                x.cut(s, -1);
            }
            check.due("as many roots of wall " + k + " of " + n, x.roots(0, 0), found);
            check.due("no more of wall " + k + " of " + n, x.root(0, found), NOT);
        }
    }

    /** "FACET: RANK is how many PAIRS there are, less 1": the numbers of a WALL, then its ROOTS and its RANK. */
    private static void facetIsOneLess() {
        facet(2, 2, 1, 1, -1);
        facet(3, 3, 1, 0, 0);
        facet(1, 1, 2, -1, 0);
        facet(5, 5, 1, 1, -1, 0);
        facet(7, 6, 1, 0, 0, 0);
        facet(3, 3, 1, 1, -2, 1);
        facet(9, 9, 1, 1, 1, -1, -1);
        facet(7, 7, 2, 1, -1, -1, 0);
        facet(6, 6, 2, 1, 1, -1, -2);
        facet(19, 14, 1, 1, 1, -1, -1, 0);
        facet(14, 14, 2, 1, 1, -1, -1, -1);
        facet(7, 6, 3, -1, -1, 0, 0, 0);
        facet(23, 14, -1, 1, 1, 0, 0, 0);
        facet(15, 10, 1, 2, -2, 0, 0, 0);
        facet(9, 9, 3, -1, -1, -1, 1, 0);
        facet(14, 14, -2, -1, 1, 1, 1, 1);
    }

    private static void facet(int roots, int rank, int... wall) {
        int n = wall.length;
        CutDistances x = Benches.ofPoints(n);
        Benches.rowOf(x, 0, wall);
        x.wallOf(0, 0);
        String what = " of wall " + Arrays.toString(wall);
        check.due("roots" + what, x.roots(0, 0), roots);
        check.due("rank" + what, x.roots(0, 1), rank);
        check.due("facet" + what, x.roots(0, 2), rank == n * (n - 1) / 2 - 1 ? 1 : 0);
    }

    /** "b(k) times -1 for each POINT k in the CUT, if all b(k) of these together are 0 (else it can't be)" */
    private static void switchedNumbers() {
        int[] b = {2, 3, -3, -2, 1, 0};
        for (int s = 1; s <= 31; s++) {
            CutDistances x = Benches.ofPoints(6);
            Benches.rowOf(x, 0, b);
            x.wallOf(0, 0);
            int together = 0;
            boolean otherwise = false;
            for (int k = 1; k < 6; k++) {
                together += Benches.isIn(s, k) ? b[k] : 0;
                otherwise = otherwise || Benches.isIn(s, k) && b[k] != 0;
            }
            check.due("switched by " + s, x.switched(0, s), together != 0 ? STATE : otherwise ? 1 : 0);
            for (int k = 0; k < 6; k++) {
                int due = together == 0 && Benches.isIn(s, k) ? -b[k] : b[k];
                check.due("b(" + k + ") switched by " + s, x.number(0, k), due);
            }
            check.due("its width stays, switched by " + s, x.taken(0, 1), 3);
        }
    }
}
