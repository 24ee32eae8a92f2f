/**
 * Each argument of each call at its bounds, for each N: the last value that is allowed and the first that is not, on
 * both sides, and the ends of ints. What is refused changes nothing; what is not answers and changes as Model does.
 */
final class BoundsTest {
    private static final int BAD = -1, NOT = -2, NO_PLACE = -13, BELOW_0 = -14;
    private static final long NO = Long.MIN_VALUE;
    private static final int LEAST = Integer.MIN_VALUE, MOST = Integer.MAX_VALUE;
    private static final String[] NONE = {};
    private static final Check check = new Check();

    public static void main(String[] args) {
        for (int n = 2; n <= 6; n++) {
            pairs(n);
            distances(n);
            places(n);
            triangles(n);
            walls(n);
            wallsHeld(n);
            roots(n);
            sums(n);
            gauges(n);
            texts(n);
            holders(n);
            numbersHeld(n);
        }
        anyInt();
        check.end();
    }

    /** In the call, a ? stands for what is from first to last; the calls of ahead are made on a full bench. */
    private static void bound(int n, String promise, String call, int first, int last, long below, long above,
            String... ahead) {
        String untouched = Whole.of(bench(n, ahead));
        for (int v : new int[] {LEAST, LEAST + 1, first - 1}) {
            refused(n, promise, call.replace("?", "" + v), below, untouched, ahead);
        }
        for (int v : new int[] {last + 1, MOST - 1, MOST}) {
            refused(n, promise, call.replace("?", "" + v), above, untouched, ahead);
        }
        allowed(n, promise, call.replace("?", "" + first), below, above, ahead);
        allowed(n, promise, call.replace("?", "" + last), below, above, ahead);
    }

    private static CutDistances bench(int n, String... ahead) {
        CutDistances x = Benches.full(n);
        Calls.all(x, ahead);
        return x;
    }

    private static void refused(int n, String promise, String call, long due, String untouched, String... ahead) {
        CutDistances x = bench(n, ahead);
        check.due(promise + ", " + n + " points: " + call, Calls.ask(x, call), due);
        check.same(promise + ", " + n + " points, changes nothing: " + call, Whole.of(x), untouched);
    }

    private static void allowed(int n, String promise, String call, long below, long above, String... ahead) {
        CutDistances x = bench(n, ahead);
        Model model = new Model();
        Benches.fill(model, n);
        Calls.all(model, ahead);
        long got = Calls.ask(x, call);
        check.holds(promise + ", " + n + " points, is allowed: " + call, got != below && got != above);
        check.due(promise + ", " + n + " points: " + call, got, Calls.ask(model, call));
        check.same(promise + ", " + n + " points, changes as told: " + call, Whole.of(x), Whole.of(model));
    }

    /** In each HOLDER a WALL with 1 at POINT 0 and 0 at others: each CUT is a ROOT of it and can switch it. */
    private static String[] wallInEach(int n) {
        String[] calls = new String[18];
        for (int h = 0; h < 6; h++) {
            calls[3 * h] = "row(" + h + ", " + n + ")";
            calls[3 * h + 1] = "set(" + h + ", 0, 1)";
            calls[3 * h + 2] = "wallOf(" + h + ", " + h + ")";
        }
        return calls;
    }

    private static String[] rowInEach(int n) {
        String[] calls = new String[12];
        for (int h = 0; h < 6; h++) {
            calls[2 * h] = "row(" + h + ", " + n + ")";
            calls[2 * h + 1] = "set(" + h + ", 0, 1)";
        }
        return calls;
    }

    private static int lastCut(int n) {
        return (1 << (n - 1)) - 1;
    }

    /** The first POINT with the last, so that the place of the other one stays clear of both ends in turn. */
    private static void pairs(int n) {
        bound(n, "2 N", "points(?)", 2, 6, BAD, BAD);
        bound(n, "3 i", "put(?, 0, 5)", 1, n - 1, BAD, BAD);
        bound(n, "3 i", "put(?, " + (n - 1) + ", 5)", 0, n - 2, BAD, BAD);
        bound(n, "3 j", "put(0, ?, 5)", 1, n - 1, BAD, BAD);
        bound(n, "3 j", "put(" + (n - 1) + ", ?, 5)", 0, n - 2, BAD, BAD);
        bound(n, "3 v", "put(0, " + (n - 1) + ", ?)", 0, 999, BAD, BAD);
        bound(n, "4 i", "at(?, 0)", 1, n - 1, BAD, BAD);
        bound(n, "4 i", "at(?, " + (n - 1) + ")", 0, n - 2, BAD, BAD);
        bound(n, "4 j", "at(0, ?)", 1, n - 1, BAD, BAD);
        bound(n, "4 j", "at(" + (n - 1) + ", ?)", 0, n - 2, BAD, BAD);
    }

    private static void distances(int n) {
        bound(n, "5 s", "cut(?, 1)", 1, lastCut(n), BAD, BAD);
        bound(n, "5 w", "cut(1, ?)", -99, 99, BAD, BAD);
        bound(n, "5 w", "cut(" + lastCut(n) + ", ?)", -99, 99, BAD, BAD);
        bound(n, "9 k", "stretch(?)", 0, 99, BAD, BAD, "stretch(0)", "cut(1, 10)");
    }

    private static void places(int n) {
        bound(n, "7 point", "place(?, 1, 2)", 0, n - 1, BAD, BAD);
        bound(n, "7 x", "place(0, ?, 2)", 0, 99, BAD, BAD);
        bound(n, "7 y", "place(" + (n - 1) + ", 1, ?)", 0, 99, BAD, BAD);
    }

    private static void triangles(int n) {
        bound(n, "11 what", "triangles(?)", 0, 1, BAD, BAD, "put(0, 1, 900)");
        bound(n, "12 what", "rounds(?)", 0, 1, BAD, BAD);
    }

    private static void walls(int n) {
        bound(n, "13 m", "walls(?, 0)", 1, 3, BAD, BAD);
        bound(n, "13 what", "walls(1, ?)", 0, 4, BAD, BAD);
        bound(n, "14 m", "wall(?, 0, 0)", 1, 3, BAD, BAD);
        bound(n, "14 i", "wall(1, 0, ?)", 0, n - 1, BAD, BAD);
        bound(n, "15 m", "holdWall(0, ?, 0)", 1, 3, BAD, BAD);
        for (int m = 1; m <= 3; m++) {
            int last = wallCount(n, m) - 1;
            bound(n, "14 k", "wall(" + m + ", ?, " + (n - 1) + ")", 0, last, BAD, NOT);
            bound(n, "15 k", "holdWall(0, " + m + ", ?)", 0, last, BAD, NOT);
        }
    }

    /** As many rows as there are with numbers from -m on, one number a POINT, that make 1. */
    private static int wallCount(int n, int m) {
        long[] ways = {1};
        for (int i = 0; i < n; i++) {
            long[] more = new long[ways.length + 2 * m];
            for (int t = 0; t < ways.length; t++) {
                for (int b = 0; b <= 2 * m; b++) {
                    more[t + b] += ways[t];
                }
            }
            ways = more;
        }
        return (int) ways[n * m + 1];
    }

    private static void wallsHeld(int n) {
        bound(n, "15 h", "holdWall(?, 1, 0)", 0, 5, BAD, BAD);
        bound(n, "16 h", "wallOf(?, 3)", 0, 5, BAD, BAD);
        bound(n, "16 from", "wallOf(0, ?)", 0, 5, BAD, BAD, rowInEach(n));
        bound(n, "17 h", "value(?)", 0, 5, NO, NO, wallInEach(n));
    }

    private static void roots(int n) {
        bound(n, "18 h", "roots(?, 0)", 0, 5, BAD, BAD, wallInEach(n));
        bound(n, "18 what", "roots(0, ?)", 0, 2, BAD, BAD, wallInEach(n));
        bound(n, "19 h", "root(?, 0)", 0, 5, BAD, BAD, wallInEach(n));
        bound(n, "19 k", "root(0, ?)", 0, lastCut(n) - 1, BAD, NOT, wallInEach(n));
        bound(n, "20 h", "switched(?, 1)", 0, 5, BAD, BAD, wallInEach(n));
        bound(n, "20 s", "switched(0, ?)", 1, lastCut(n), BAD, BAD, wallInEach(n));
    }

    private static void sums(int n) {
        String[] oneCut = {"stretch(0)", "cut(" + lastCut(n) + ", 5)"};
        bound(n, "21 tries", "sum(?, 0)", 1, 9999, BAD, BAD, oneCut);
        bound(n, "21 s", "sum(9999, ?)", -1, lastCut(n), BAD, BAD, oneCut);
        bound(n, "21 s, with too few tries", "sum(1, ?)", -1, lastCut(n), BAD, BAD, oneCut);
    }

    private static void gauges(int n) {
        bound(n, "22 kind", "gauge(?, 3)", 0, 4, NO, NO);
        for (int kind = 0; kind < 5; kind++) {
            bound(n, "22 set", "gauge(" + kind + ", ?)", 0, (1 << n) - 1, NO, NO);
        }
    }

    private static void texts(int n) {
        bound(n, "23 n", "feed(1, ?)", 1, 4, BAD, BAD);
        int spelled = 1 + 4 * n * (n - 1) / 2;
        bound(n, "26 i", "spell(?)", -1, spelled - 1, BAD, NOT);
    }

    private static void holders(int n) {
        bound(n, "27 h", "hold(?)", 0, 5, BAD, BAD);
        bound(n, "28 h", "lose(?)", 0, 5, BAD, BAD);
        bound(n, "29 h", "taken(?, 1)", 0, 5, BAD, BAD, wallInEach(n));
        bound(n, "29 kind", "taken(1, ?)", 0, 2, BAD, BAD);
        bound(n, "30 h", "number(?, 0)", 0, 5, NO, NO, rowInEach(n));
        bound(n, "31 h", "row(?, 3)", 0, 5, BAD, BAD);
        bound(n, "31 n", "row(0, ?)", 0, 20, BELOW_0, BAD);
        bound(n, "32 h", "set(?, 0, 7)", 0, 5, BAD, BAD, rowInEach(n));
        bound(n, "33 h", "judge(?)", 0, 5, BAD, BAD, rowInEach(n));
        bound(n, "36 what", "count(?)", 0, 4, BAD, BAD);
    }

    private static void numbersHeld(int n) {
        bound(n, "30 i of DISTANCES", "number(0, ?)", 0, n * (n - 1) / 2 - 1, NO, NO, "hold(0)");
        bound(n, "30 i of a WALL", "number(2, ?)", 0, n - 1, NO, NO);
        bound(n, "30 i of a ROW", "number(3, ?)", 0, n, NO, NO);
        bound(n, "30 i of the longest ROW", "number(5, ?)", 0, 19, NO, NO);
        bound(n, "30 i of a ROW of one", "number(0, ?)", 0, 0, NO, NO, "row(0, 1)");
        bound(n, "32 i", "set(3, ?, 7)", 0, n, NO_PLACE, NO_PLACE);
        bound(n, "32 i of the longest ROW", "set(5, ?, 7)", 0, 19, NO_PLACE, NO_PLACE);
        bound(n, "32 i of a ROW of one", "set(0, ?, 7)", 0, 0, NO_PLACE, NO_PLACE, "row(0, 1)");
    }

    /** feed() and set() take any int as v. */
    private static void anyInt() {
        for (String v : new String[] {"least", "most", "0", "-1", "1"}) {
            allowed(4, "23 v", "feed(" + v + ", 4)", BAD, BAD, NONE);
            allowed(4, "23 v", "feed(" + v + ", 1)", BAD, BAD, NONE);
            allowed(4, "32 v", "set(5, 7, " + v + ")", BAD, BAD, NONE);
        }
    }
}
