/** Benches made ready by the same calls, for the class and for Model. */
final class Benches {
    private Benches() {
    }

    static CutDistances full(int n) {
        CutDistances x = new CutDistances();
        fill(x, n);
        return x;
    }

    /**
     * N POINTS with DISTANCES 100 and more, all unlike; PLACES all unlike; eight DEEDS; a TEXT on THE TAPE; THE IMAGE
     * and HOLDERS 1 and 4 of another N; HOLDER 0 with nothing, 2 with a WALL, 3 with a ROW that tells one, 5 with the
     * longest ROW.
     */
    static void fill(Object x, int n) {
        int other = n < 6 ? n + 1 : 2;
        Calls.all(x, "points(" + other + ")", "put(0, 1, 77)", "place(1, 5, 6)");
        Calls.all(x, "hold(1)", "holdWall(4, 1, 0)", "image()");
        Calls.all(x, "points(" + n + ")");
        for (int k = 0; k < 9; k++) {
            Calls.ask(x, "put(0, 1, " + (900 - k) + ")");
        }
        for (int i = 0; i < n; i++) {
            for (int j = i + 1; j < n; j++) {
                Calls.ask(x, "put(" + i + ", " + j + ", " + (100 + 10 * i + j) + ")");
            }
            Calls.ask(x, "place(" + i + ", " + (10 + i) + ", " + (90 - i * i) + ")");
        }
        Calls.all(x, "holdWall(2, 1, 1)", "row(3, " + (n + 1) + ")", "set(3, 1, 1)", "set(3, " + n + ", 9)");
        Calls.all(x, "row(5, 20)", "set(5, 0, most)", "set(5, 19, least)");
        tape(x, "3;1;22,333");
    }

    static CutDistances ofPoints(int n) {
        CutDistances x = new CutDistances();
        x.points(n);
        return x;
    }

    static CutDistances ofText(String text) {
        CutDistances x = new CutDistances();
        Texts.read(x, text);
        return x;
    }

    static void rowOf(CutDistances x, int h, int... numbers) {
        x.row(h, numbers.length);
        for (int i = 0; i < numbers.length; i++) {
            x.set(h, i, numbers[i]);
        }
    }

    /** Whether a POINT is in CUT s, by halving and not by shifting. */
    static boolean isIn(int s, int point) {
        for (int k = 1; k < point; k++) {
            s /= 2;
        }
        return point > 0 && s % 2 == 1;
    }

    static void tape(Object x, String text) {
        for (int i = 0; i < text.length(); i++) {
            Calls.ask(x, "feed(" + (int) text.charAt(i) + ", 1)");
        }
    }
}
